theorem RQ_48 {a k : Nat} (h : RQ a k) (h1 : 48 ≤ a) (h2 : a < 64) : (a = 48 ∧ (k = 0 ∨ (3 ≤ k ∧ k ≤ 12))) ∨ (50 ≤ a ∧ a < 55) := by
  rcases h with ⟨e, -⟩ | ⟨e, -⟩ | ⟨e, -⟩ | ⟨e, -⟩ | ⟨e, -⟩ | ⟨e, e2⟩ | ⟨e, -⟩ | ⟨e, -⟩ | ⟨e, -⟩
  · omega
  · omega
  · omega
  · omega
  · omega
  · exact Or.inl ⟨e, e2⟩
  · exact Or.inr (by omega)
  · exact Or.inr (by omega)
  · omega
theorem jP {P9 : pP} (h0 : P9 48 0 = some 49) : ∀ k, (k = 0 ∨ (3 ≤ k ∧ k ≤ 12)) → (upP (upP (upP (upP (upP (upP (upP (upP (upP (upP P9 48 3 (some 50)) 48 4 (some 55)) 48 5 (some 56)) 48 6 (some 57)) 48 7 (some 58)) 48 8 (some 59)) 48 9 (some 60)) 48 10 (some 61)) 48 11 (some 62)) 48 12 (some 63)) 48 k = pRs 48 k := by
  intro k hk
  rcases (show k = 0 ∨ k = 3 ∨ k = 4 ∨ k = 5 ∨ k = 6 ∨ k = 7 ∨ k = 8 ∨ k = 9 ∨ k = 10 ∨ k = 11 ∨ k = 12 by omega) with rfl | rfl | rfl | rfl | rfl | rfl | rfl | rfl | rfl | rfl | rfl
  · simp [upP, h0]; rfl
  all_goals (simp [upP]; rfl)
set_option maxRecDepth 100000 in
set_option maxHeartbeats 400000 in
theorem z_X3_init (I : pI) (J : pJ) (P : pP) : pMetZ yX3_init (pws yX3_init cX3_init 1 none) { frames := 3, cells := 15, slots := 44219, locals := 53 } [.ref 48] 49 I J P (pOc 64 (fun I' J' P' => CN 49 64 48 I P I' P')) := by
  refine pMetZ_of (i := true) (by decide) (fun _ => rfl) (Nat.le_of_ble_eq_true rfl) ?_
  refine pw_aload_n dX3_init_0 rfl ?_
  refine pw_obj dX3_init_1 ob_X3 (Nat.le_of_ble_eq_true rfl) (Nat.le_of_ble_eq_true rfl) ?_
  refine pw_aload_n dX3_init_4 rfl ?_
  refine pw_sipush (v := 3000) dX3_init_5 (by decide) ?_
  refine pw_newI dX3_init_8 rfl rfl aw_I rfl (by decide +kernel) (by decide +kernel) (Nat.le_of_ble_eq_true rfl) (Nat.le_of_ble_eq_true rfl) (Nat.le_of_ble_eq_true rfl) (Nat.le_of_ble_eq_true rfl) ?_
  refine pw_putr dX3_init_10 rfl fl_X3_11 pf_X3_0 rfl (fun _ => rfl) (fun _ => rfl) rfl (by decide) (by decide) (by decide) ?_
  refine pw_aload_n dX3_init_13 rfl ?_
  refine pw_new (ci := 1) dX3_init_14 rfl rfl nw_X3_15 rfl (by decide) (by decide) (by decide) ?_
  refine pw_dup dX3_init_17 rfl ?_
  refine pw_cI (N := 55) (y := yX1_init) (cc := cX1_init) (nL := 2) (rm := { frames := 2, cells := 4, slots := 21, locals := 32 }) dX3_init_18 (z_X1_init (h := 50) (Or.inr rfl) _ _ _) rfl rfl iw_X3_17 (by decide) rfl ⟨by decide, by decide⟩ (by decide) (by decide) rfl (Nat.le_of_ble_eq_true rfl) (fun I9 J9 P9 q9 => ?_)
  obtain ⟨c1, c2, c3, c4⟩ := q9
  refine pw_putr dX3_init_21 rfl fl_X3_18 pf_X3_3 rfl (fun _ => rfl) (fun _ => rfl) rfl (by decide) (by decide) (by decide) ?_
  refine pw_aload_n dX3_init_24 rfl ?_
  refine pw_iconst (v := 3) dX3_init_25 (by decide) ?_
  refine pw_newI dX3_init_26 rfl rfl aw_I rfl (by decide +kernel) (by decide +kernel) (Nat.le_of_ble_eq_true rfl) (Nat.le_of_ble_eq_true rfl) (Nat.le_of_ble_eq_true rfl) (Nat.le_of_ble_eq_true rfl) ?_
  refine pw_putr dX3_init_28 rfl fl_X3_22 pf_X3_4 rfl (fun _ => rfl) (fun _ => rfl) rfl (by decide) (by decide) (by decide) ?_
  refine pw_aload_n dX3_init_31 rfl ?_
  refine pw_sipush (v := 3000) dX3_init_32 (by decide) ?_
  refine pw_newI dX3_init_35 rfl rfl aw_I rfl (by decide +kernel) (by decide +kernel) (Nat.le_of_ble_eq_true rfl) (Nat.le_of_ble_eq_true rfl) (Nat.le_of_ble_eq_true rfl) (Nat.le_of_ble_eq_true rfl) ?_
  refine pw_putr dX3_init_37 rfl fl_X3_25 pf_X3_5 rfl (fun _ => rfl) (fun _ => rfl) rfl (by decide) (by decide) (by decide) ?_
  refine pw_aload_n dX3_init_40 rfl ?_
  refine pw_sipush (v := 9000) dX3_init_41 (by decide) ?_
  refine pw_newL dX3_init_44 rfl rfl aw_L rfl (by decide +kernel) (by decide +kernel) (Nat.le_of_ble_eq_true rfl) (Nat.le_of_ble_eq_true rfl) (Nat.le_of_ble_eq_true rfl) (Nat.le_of_ble_eq_true rfl) ?_
  refine pw_putr dX3_init_46 rfl fl_X3_28 pf_X3_6 rfl (fun _ => rfl) (fun _ => rfl) rfl (by decide) (by decide) (by decide) ?_
  refine pw_aload_n dX3_init_49 rfl ?_
  refine pw_sipush (v := 8192) dX3_init_50 (by decide) ?_
  refine pw_newI dX3_init_53 rfl rfl aw_I rfl (by decide +kernel) (by decide +kernel) (Nat.le_of_ble_eq_true rfl) (Nat.le_of_ble_eq_true rfl) (Nat.le_of_ble_eq_true rfl) (Nat.le_of_ble_eq_true rfl) ?_
  refine pw_putr dX3_init_55 rfl fl_X3_32 pf_X3_7 rfl (fun _ => rfl) (fun _ => rfl) rfl (by decide) (by decide) (by decide) ?_
  refine pw_aload_n dX3_init_58 rfl ?_
  refine pw_sipush (v := 3000) dX3_init_59 (by decide) ?_
  refine pw_newI dX3_init_62 rfl rfl aw_I rfl (by decide +kernel) (by decide +kernel) (Nat.le_of_ble_eq_true rfl) (Nat.le_of_ble_eq_true rfl) (Nat.le_of_ble_eq_true rfl) (Nat.le_of_ble_eq_true rfl) ?_
  refine pw_putr dX3_init_64 rfl fl_X3_35 pf_X3_8 rfl (fun _ => rfl) (fun _ => rfl) rfl (by decide) (by decide) (by decide) ?_
  refine pw_aload_n dX3_init_67 rfl ?_
  refine pw_sipush (v := 3000) dX3_init_68 (by decide) ?_
  refine pw_newI dX3_init_71 rfl rfl aw_I rfl (by decide +kernel) (by decide +kernel) (Nat.le_of_ble_eq_true rfl) (Nat.le_of_ble_eq_true rfl) (Nat.le_of_ble_eq_true rfl) (Nat.le_of_ble_eq_true rfl) ?_
  refine pw_putr dX3_init_73 rfl fl_X3_38 pf_X3_9 rfl (fun _ => rfl) (fun _ => rfl) rfl (by decide) (by decide) (by decide) ?_
  refine pw_aload_n dX3_init_76 rfl ?_
  refine pw_sipush (v := 9000) dX3_init_77 (by decide) ?_
  refine pw_newI dX3_init_80 rfl rfl aw_I rfl (by decide +kernel) (by decide +kernel) (Nat.le_of_ble_eq_true rfl) (Nat.le_of_ble_eq_true rfl) (Nat.le_of_ble_eq_true rfl) (Nat.le_of_ble_eq_true rfl) ?_
  refine pw_putr dX3_init_82 rfl fl_X3_41 pf_X3_10 rfl (fun _ => rfl) (fun _ => rfl) rfl (by decide) (by decide) (by decide) ?_
  refine pw_aload_n dX3_init_85 rfl ?_
  refine pw_sipush (v := 3000) dX3_init_86 (by decide) ?_
  refine pw_newZ dX3_init_89 rfl rfl aw_Z rfl (by decide +kernel) (by decide +kernel) (Nat.le_of_ble_eq_true rfl) (Nat.le_of_ble_eq_true rfl) (Nat.le_of_ble_eq_true rfl) (Nat.le_of_ble_eq_true rfl) ?_
  refine pw_putr dX3_init_91 rfl fl_X3_44 pf_X3_11 rfl (fun _ => rfl) (fun _ => rfl) rfl (by decide) (by decide) (by decide) ?_
  refine pw_aload_n dX3_init_94 rfl ?_
  refine pw_sipush (v := 3000) dX3_init_95 (by decide) ?_
  refine pw_newI dX3_init_98 rfl rfl aw_I rfl (by decide +kernel) (by decide +kernel) (Nat.le_of_ble_eq_true rfl) (Nat.le_of_ble_eq_true rfl) (Nat.le_of_ble_eq_true rfl) (Nat.le_of_ble_eq_true rfl) ?_
  refine pw_putr dX3_init_100 rfl fl_X3_48 pf_X3_12 rfl (fun _ => rfl) (fun _ => rfl) rfl (by decide) (by decide) (by decide) ?_
  refine pw_vret dX3_init_103 rfl (Nat.le_of_ble_eq_true rfl) (Nat.le_of_ble_eq_true rfl) ?_
  refine ⟨rfl, rfl, fun a k ha => ?_, fun a k ha => ?_, fun a k ha hb e1 e2 e3 e4 => ?_, fun a k ha hb hR => ?_⟩
  · simp only [zI, show ¬ a = 63 by omega, show ¬ a = 62 by omega, show ¬ a = 61 by omega, show ¬ a = 60 by omega, show ¬ a = 59 by omega, show ¬ a = 58 by omega, show ¬ a = 56 by omega, show ¬ a = 55 by omega, if_false]
    rw [c1 a k (by omega), zI_ne (by omega), zI_ne (by omega)]
  · rw [upP_ne (by omega), upP_ne (by omega), upP_ne (by omega), upP_ne (by omega), upP_ne (by omega), upP_ne (by omega), upP_ne (by omega), upP_ne (by omega), upP_ne (by omega), upP_ne (by omega), c2 a k (by omega), zP_ne (by omega), upP_ne (by omega)]
  · unfold zI
    split
    · rfl
    split
    · rfl
    split
    · rfl
    split
    · rfl
    split
    · rfl
    split
    · rfl
    split
    · rfl
    split
    · rfl
    by_cases h5 : 51 ≤ a
    · exact c3 a k h5 (by omega) e1 e2 e3 e4
    · rw [c1 a k (by omega)]
      unfold zI
      split
      · rfl
      split
      · rfl
      · omega
  · rcases RQ_48 hR ha hb with ⟨rfl, hk⟩ | ⟨h5, h6⟩
    · exact jP (by rw [c2 48 0 (by omega), zP_ne (by omega), upP_eq]) k hk
    · rw [upP_ne (by omega), upP_ne (by omega), upP_ne (by omega), upP_ne (by omega), upP_ne (by omega), upP_ne (by omega), upP_ne (by omega), upP_ne (by omega), upP_ne (by omega), upP_ne (by omega)]
      exact c4 a k h5 h6 hR
