/-! THE LAW from its entry -/
theorem LI_start {I2 I4 : pI} (h0 : ∀ k, I2 0 k = 0) (h1 : ∀ a k, 1 ≤ a → a < 64 → a ≠ 2 → a ≠ 44 → a ≠ 51 → a ≠ 57 → I2 a k = 0) (c1 : ∀ a k, a < 64 → I4 a k = shI I2 1 2 a k) (c2 : ∀ k, k ≠ 1 → k ≠ 2 → I4 64 k = 0) (c3 : I4 64 1 = 1) (c4 : I4 64 2 = 2) (c5 : ∀ a k, (65 ≤ a ∧ a ≤ 74) ∨ a = 78 ∨ (80 ≤ a ∧ a ≤ 82) → I4 a k = 0) : LI (cpL 160 0 (flI I4 1)) 2 := by
  have ko : ∀ a k, a ≠ 65 → a ≠ 66 → (a ≠ 64 ∨ k ≠ 23) → cpL 160 0 (flI I4 1) a k = I4 a k := fun a k a1 a2 a3 => by rw [cpL_o a1, flI_o a2 a3]
  have e481 : cpL 160 0 (flI I4 1) 48 1 = 0 := by rw [ko _ _ (by decide) (by decide) (by decide), c1 _ _ (by decide), shI_hi (by decide)]; exact h1 48 1 (by decide) (by decide) (by decide) (by decide) (by decide) (by decide)
  have e482 : cpL 160 0 (flI I4 1) 48 2 = 0 := by rw [ko _ _ (by decide) (by decide) (by decide), c1 _ _ (by decide), shI_hi (by decide)]; exact h1 48 2 (by decide) (by decide) (by decide) (by decide) (by decide) (by decide)
  refine ⟨HRel.zero (G_fill (m := 1) (I := upI I2 0 3 1) (K := I4) (by decide) (by decide) (fun i j hi hj => ?_) (fun k _ => rfl)) ?_ ?_ ?_ (fun k hk => ?_) (fun j k hj hk => ?_) (fun a k ha hk => ?_) (fun k hk => ?_), ⟨by decide, by decide⟩, ⟨1, by decide, by decide, ?_, ?_⟩, ?_, 0, by decide, e481.trans rfl, ?_, fun j hj => absurd hj (by omega)⟩
  · rw [ko _ _ (by omega) (by omega) (by omega), c1 _ _ (by omega)]
    unfold shI
    rw [clI_o (by omega) (by omega)]
    rfl
  · rw [ko _ _ (by decide) (by decide) (by decide), c1 _ _ (by decide)]; unfold shI; rw [clI_1]; rfl
  · rw [ko _ _ (by decide) (by decide) (by decide), c4]; rfl
  · rw [ko _ _ (by decide) (by decide) (by decide), c1 _ _ (by decide)]; unfold shI; rw [clI_2]
  · rw [ko _ _ (by decide) (by decide) (by omega), c5 _ _ (by omega)]
  · rw [ko _ _ (by omega) (by omega) (by omega), c1 _ _ (by omega)]; unfold shI; exact clI_z (h := 43) hj hk
  · rw [ko _ _ (by omega) (by omega) (by omega), c5 _ _ (by omega)]
  · rw [ko _ _ (by decide) (by decide) (by omega), c5 _ _ (by omega)]
  · rw [ko _ _ (by decide) (by decide) (by decide), c1 _ _ (by decide), shI_x]; rfl
  · rw [ko _ _ (by decide) (by decide) (by decide), c3]; rfl
  · rw [e482, ko _ _ (by decide) (by decide) (by decide), c2 _ (by decide) (by decide)]
  · rw [ko _ _ (by decide) (by decide) (by decide), c2 _ (by decide) (by decide)]; rfl
theorem nw_L_8 : pWNw RL 8 5 = true := by decide +kernel
theorem nw_L_54 : pWNw RL 54 6 = true := by decide +kernel
theorem iw_L_53 : pWI RL 53 yX5_init cX5_init 1 0 = true := by decide +kernel
theorem iw_L_56 : pWI RL 56 yX6_init cX6_init 2 0 = true := by decide +kernel
set_option maxRecDepth 100000 in
set_option maxHeartbeats 1000000 in
theorem pw_law {b L : Nat} {xs : Nat → Int32} (hL : L ≤ 3072) (Q : pQ) (hQ : ∀ n' I' J' P', Q (.inl (some (.int 1))) n' I' J' P') (I : pI) (J : pJ) (P : pP) : PW (mLaw b L xs) Q 0 [(0, .ref 1006)] [] 0 I J P 0 0 := by
  refine pw_new (ci := 5) dL_law_0 rfl rfl nw_L_8 rfl (by decide) (Nat.le_of_ble_eq_true rfl) (Nat.le_of_ble_eq_true rfl) ?_
  refine pw_dup dL_law_3 rfl ?_
  refine pw_cI (N := 64) (y := yX5_init) (cc := cX5_init) (nL := 1) (rm := { frames := 4, cells := 63, slots := 44458, locals := 84 }) dL_law_4 (z_X5_init _ _ _) rfl rfl iw_L_53 (by decide) rfl ⟨(Nat.le_of_ble_eq_true rfl), (Nat.le_of_ble_eq_true rfl)⟩ (Nat.le_of_ble_eq_true rfl) (Nat.le_of_ble_eq_true rfl) rfl (Nat.le_of_ble_eq_true rfl) (fun I4 J4 P4 q4 => ?_)
  obtain ⟨rfl, I5, z0, z1, rfl⟩ := q4
  refine pw_astore_n dL_law_7 (Nat.le_of_ble_eq_true rfl) ?_
  refine pw_new (ci := 6) dL_law_8 rfl rfl nw_L_54 rfl (by decide) (Nat.le_of_ble_eq_true rfl) (Nat.le_of_ble_eq_true rfl) ?_
  refine pw_dup dL_law_11 rfl ?_
  refine pw_cI (N := 83) (y := yX6_init) (cc := cX6_init) (nL := 2) (rm := { frames := 3, cells := 18, slots := 24405, locals := 65 }) dL_law_12 (z_X6_init _ _ _ (fun a k ha _ => zP_ne (by omega))) rfl rfl iw_L_56 (by decide) rfl ⟨(Nat.le_of_ble_eq_true rfl), (Nat.le_of_ble_eq_true rfl)⟩ (Nat.le_of_ble_eq_true rfl) (Nat.le_of_ble_eq_true rfl) rfl (Nat.le_of_ble_eq_true rfl) (fun I12 J12 P12 q12 => ?_)
  obtain ⟨rfl, I6, y1, y2, y3, y4, y5, rfl⟩ := q12
  refine pw_astore_n dL_law_15 (Nat.le_of_ble_eq_true rfl) ?_
  refine pw_iconst (v := 1) dL_law_16 (by decide) ?_
  refine pw_newL dL_law_17 rfl rfl aw_L rfl (by decide +kernel) (by decide +kernel) (Nat.le_of_ble_eq_true rfl) (by decide) (Nat.le_of_ble_eq_true rfl) (Nat.le_of_ble_eq_true rfl) ?_
  refine pw_astore_n dL_law_19 (Nat.le_of_ble_eq_true rfl) ?_
  refine pw_iconst (v := 0) dL_law_20 (by decide) ?_
  refine pw_istore dL_law_21 (Nat.le_of_ble_eq_true rfl) ?_
  refine pw_loc (L' := [(0, .ref 1006), (1, .ref 0), (2, .ref 64), (3, .ref 83), (4, .int (nI (6 * 0)))]) rfl ?_
  refine pw_widen (k' := 84 + 2 * 0) (n' := 68892 + 12 * 0) (Nat.le_of_ble_eq_true rfl) (Nat.le_of_ble_eq_true rfl) ?_
  refine l_law hL Q hQ (L + 1) 0 _ _ 2 (by omega) (by omega) (LI_start (I2 := I5) (I4 := I6) (fun k => by rw [z0 k]; exact zI_eq) z1 (fun a k ha => by rw [y1 a k ha, zI_ne (by omega)]) (fun k h1 h2 => by rw [y2 k h1 h2]; exact zI_eq) y3 y4 (fun a k ha => y5 a k ha trivial))
