/-! EACH CALL, on the class and then on the reference -/
theorem le_pred {v : Int32} {c : Nat} (hc : 1 ≤ c) (hc3 : c ≤ 3) : v ≤ nI c - 1 ↔ v < nI c := by
  have e : nI c - 1 = nI (c - 1) := pk_sub (b := 1) hc
  rw [e, Int32.le_iff_toInt_le, Int32.lt_iff_toInt_lt, nI_toInt (by omega), nI_toInt (by omega)]
  omega
theorem of_lt {v : Int32} {n : Nat} (hn : n < 2 ^ 31) (h : 0 ≤ v ∧ v < nI n) : ∃ p, p < n ∧ v = nI p := by
  rcases pk_ix v hn with z | z | z
  · exact absurd h.1 (Int32.not_le.mpr z)
  · exact absurd h.2 (Int32.not_lt.mpr z)
  · exact z
theorem LI.c {I : pI} {c : Nat} (h : LI I c) : I 43 1 = nI c ∧ I 64 2 = nI c := ⟨h.1.2.2.2.1, h.1.2.2.2.2.1⟩
theorem LI.P {I : pI} {c p : Nat} (h : LI I c) (hp : p < 3) : PRel I I (45 + p) p := by
  have := h.1.1 p hp
  rw [Nat.zero_add] at this
  exact this
theorem li_x {I : pI} {c : Nat} {v : Int32} (h : LI I c) (hx : ¬ (0 ≤ v ∧ v < nI c)) : ¬ (0 ≤ v ∧ v ≤ I 64 2 - 1) := by
  rw [h.c.2, le_pred h.2.1.1 h.2.1.2]; exact hx
theorem begI_n {I : pI} {a x k : Nat} {p n : Int32} (h : x ≠ a) : begI I a p n x k = I x k := by
  unfold begI; rw [upI_a h, upI_a h, upI_a h, upI_a h, upI_a h, upI_a h]
set_option maxRecDepth 100000 in
set_option maxHeartbeats 4000000 in
theorem k_want {I : pI} {c : Nat} (J : pJ) (v : Int32) (h : LI I c) : ∃ P1, pMet yL_want (pwh yL_want cL_want 3 (some .int) [(0, 5, 8, 13), (0, 5, 11, 23)]) { frames := 8, cells := 2, slots := 12, locals := 133 } [.ref 0, .int v] 84 I J pRs (pOi P1) ∧ ∀ r I1 J1, P1 r I1 J1 → ∃ P2, pMet yX6_want (pws yX6_want cX6_want 3 none) { frames := 2, cells := 0, slots := 0, locals := 44 } [.ref 64, .int v] 84 I1 J1 pRs (pOv P2) ∧ ∀ I2 J2, P2 I2 J2 → I2 64 0 = r ∧ ∃ c', LI I2 c' := by
  obtain ⟨hc1, hc3⟩ := h.2.1
  have hcI := h.c
  by_cases hx : 0 ≤ v ∧ v < nI c
  · obtain ⟨p, hp, rfl⟩ := of_lt (by omega) hx
    obtain ⟨w, q0, a1, a2, a3, a4, -⟩ := h.P (show p < 3 by omega)
    by_cases hw : I (45 + p) 0 = 0
    · refine ⟨_, w_want (nI p) I J (c_want I J hp hc3 hcI.1 hw), fun r I1 J1 q => ?_⟩
      obtain ⟨rfl, rfl, rfl⟩ := q
      have e64 : ∀ a k, 48 ≤ a → begI I (45 + p) (nI p) (nI c) a k = I a k := fun a k ha => begI_n (by omega)
      refine ⟨_, r_want _ _ hp hc3 (by rw [e64 _ _ (by decide)]; exact hcI.2) (by rw [e64 _ _ (by decide), a4, ← a3]; exact hw), fun I2 J2 q => ?_⟩
      obtain ⟨rfl, rfl⟩ := q
      refine ⟨by rw [atI_hi (by omega), upI_s], c, h.two h.2.1 (fun a k ha => e64 a k (by omega)) (fun a k ha => e64 a k (by omega)) (fun a k ha => by rw [atI_hi (by omega), upI_a (by omega)]) ⟨by rw [atI_hi (by omega), upI_k (by decide)], by rw [atI_hi (by omega), upI_k (by decide)], fun k => by rw [atI_hi (by omega), upI_a (by decide)]⟩ ?_ (fun g => ?_)⟩
      · obtain ⟨m, m1, m5, m3, m4⟩ := h.2.2.1
        exact ⟨m, m1, m5, by rw [begI_n (by omega)]; exact m3, by rw [atI_hi (by omega), upI_k (by decide), e64 _ _ (by decide)]; exact m4⟩
      · have := sim_begin (p := p) (g.thr (v := 0)) HB0 (show p < 3 by omega) hc3
        rw [Nat.zero_add] at this
        exact this
    · refine ⟨_, w_want_S (nI p) I J (c_want_s I J hp hc3 hcI.1 hw), fun r I1 J1 q => ?_⟩
      obtain ⟨rfl, rfl, rfl⟩ := q
      refine ⟨_, r_want_s _ _ hp hc3 hcI.2 (by rw [a4, ← a3]; exact hw), fun I2 J2 q => ?_⟩
      obtain ⟨rfl, rfl⟩ := q
      exact ⟨upI_s _ _ _ _, c, h.thr⟩
  · refine ⟨_, w_want_A v I J (c_want_x v I J hx hc3 hcI.1), fun r I1 J1 q => ?_⟩
    obtain ⟨rfl, rfl, rfl⟩ := q
    refine ⟨_, r_want_x v _ _ (li_x h hx), fun I2 J2 q => ?_⟩
    obtain ⟨rfl, rfl⟩ := q
    exact ⟨upI_s _ _ _ _, c, h.thr⟩
set_option maxRecDepth 100000 in
set_option maxHeartbeats 4000000 in
theorem k_leave {I : pI} {c : Nat} (J : pJ) (v : Int32) (h : LI I c) : ∃ P1, pMet yL_leave (pwh yL_leave cL_leave 3 (some .int) [(0, 5, 8, 13), (0, 5, 11, 23)]) { frames := 8, cells := 2, slots := 12, locals := 133 } [.ref 0, .int v] 84 I J pRs (pOi P1) ∧ ∀ r I1 J1, P1 r I1 J1 → ∃ P2, pMet yX6_leave (pws yX6_leave cX6_leave 3 none) { frames := 2, cells := 0, slots := 0, locals := 43 } [.ref 64, .int v] 84 I1 J1 pRs (pOv P2) ∧ ∀ I2 J2, P2 I2 J2 → I2 64 0 = r ∧ ∃ c', LI I2 c' := by
  obtain ⟨hc1, hc3⟩ := h.2.1
  have hcI := h.c
  by_cases hx : 0 ≤ v ∧ v < nI c
  · obtain ⟨p, hp, rfl⟩ := of_lt (by omega) hx
    obtain ⟨w, q0, a1, a2, a3, a4, -⟩ := h.P (show p < 3 by omega)
    by_cases hw : I (45 + p) 0 = 2
    · refine ⟨_, w_leave (nI p) I J (c_leave I J hp hc3 hcI.1 hw), fun r I1 J1 q => ?_⟩
      obtain ⟨rfl, rfl, rfl⟩ := q
      have e64 : ∀ a k, 48 ≤ a → upI I (45 + p) 0 3 a k = I a k := fun a k ha => upI_a (by omega)
      refine ⟨_, r_leave _ _ hp hc3 (by rw [e64 _ _ (by decide)]; exact hcI.2) (by rw [e64 _ _ (by decide), a4, ← a3]; exact hw), fun I2 J2 q => ?_⟩
      obtain ⟨rfl, rfl⟩ := q
      refine ⟨by rw [upI_a (by decide), upI_s], c, h.two h.2.1 (fun a k ha => e64 a k (by omega)) (fun a k ha => e64 a k (by omega)) (fun a k ha => by rw [upI_a (by omega), upI_a (by omega)]) ⟨by rw [upI_a (by decide), upI_k (by decide)], by rw [upI_a (by decide), upI_k (by decide)], fun k => by rw [upI_a (by decide), upI_a (by decide)]⟩ ?_ (fun g => ?_)⟩
      · obtain ⟨m, m1, m5, m3, m4⟩ := h.2.2.1
        exact ⟨m, m1, m5, by rw [upI_a (by omega)]; exact m3, by rw [upI_a (by decide), upI_k (by decide), e64 _ _ (by decide)]; exact m4⟩
      · have := sim_what (p := p) (v := 3) (g.thr (v := 0)) HB0 (show p < 3 by omega) (by decide) (by decide)
        rw [Nat.zero_add] at this
        exact this
    · refine ⟨_, w_leave_S (nI p) I J (c_leave_s I J hp hc3 hcI.1 hw), fun r I1 J1 q => ?_⟩
      obtain ⟨rfl, rfl, rfl⟩ := q
      refine ⟨_, r_leave_s _ _ hp hc3 hcI.2 (by rw [a4, ← a3]; exact hw), fun I2 J2 q => ?_⟩
      obtain ⟨rfl, rfl⟩ := q
      exact ⟨upI_s _ _ _ _, c, h.thr⟩
  · refine ⟨_, w_leave_A v I J (c_leave_x v I J hx hc3 hcI.1), fun r I1 J1 q => ?_⟩
    obtain ⟨rfl, rfl, rfl⟩ := q
    refine ⟨_, r_leave_x v _ _ (li_x h hx), fun I2 J2 q => ?_⟩
    obtain ⟨rfl, rfl⟩ := q
    exact ⟨upI_s _ _ _ _, c, h.thr⟩
set_option maxRecDepth 100000 in
set_option maxHeartbeats 4000000 in
theorem k_step {I : pI} {c : Nat} (J : pJ) (v : Int32) (h : LI I c) : ∃ P1, pMet yL_step (pwh yL_step cL_step 4 (some .int) [(0, 9, 12, 13), (0, 9, 15, 23)]) { frames := 8, cells := 2, slots := 12, locals := 133 } [.ref 0, .int v, .ref 83] 84 I J pRs (pOi P1) ∧ ∀ r I1 J1, P1 r I1 J1 → ∃ P2, pMet yX6_step (pws yX6_step cX6_step 3 (some .int)) { frames := 2, cells := 0, slots := 0, locals := 54 } [.ref 64, .int v] 84 I1 J1 pRs (pOi P2) ∧ ∀ b I2 J2, P2 b I2 J2 → I2 64 0 = r ∧ (r = 0 → J2 83 0 = b.toInt64) ∧ ∃ c', LI I2 c' := by
  obtain ⟨hc1, hc3⟩ := h.2.1
  have hcI := h.c
  by_cases hx : 0 ≤ v ∧ v < nI c
  · obtain ⟨p, hp, rfl⟩ := of_lt (by omega) hx
    have hP := h.P (show p < 3 by omega)
    obtain ⟨w, q0, a1, a2, a3, a4, a5, a6, -⟩ := id hP
    by_cases hw : I (45 + p) 0 = 1 ∨ I (45 + p) 0 = 3
    · refine ⟨_, w_step (nI p) I J (c_step I J hp hc3 hcI.1 h.1.2.2.1.PV ⟨q0, a2, a5⟩ hw), fun r I1 J1 q => ?_⟩
      obtain ⟨rfl, _, _, _, ⟨rfl, rfl, rfl⟩, rfl, rfl⟩ := q
      have e64 : ∀ a k, 48 ≤ a → adv I 43 p c a k = I a k := fun a k ha => adv_hi (by omega) hc3 (by omega)
      have hG : GRel I (adv I 43 p c) := h.1.2.2.1.congr (fun _ _ _ => rfl) (fun k => e64 _ _ (by decide))
      refine ⟨_, r_step _ _ hp hc3 (by rw [e64 _ _ (by decide)]; exact hcI.2) hG.PR ⟨q0, a2, by rw [e64 _ _ (by decide)]; exact a6⟩ (fun r hr => by rw [e64 _ _ (by decide)]; exact hP.RG r hr) (by rw [e64 _ _ (by decide), a4, ← a3]; exact hw), fun b I2 J2 q => ?_⟩
      obtain ⟨rfl, rfl, rfl⟩ := q
      have hsim : HRel I (adv I 43 p c) 43 0 0 c → HRel (adv I 43 p c) (wkI (upI (adv I 43 p c) 64 0 0) p 0 c) 43 0 0 c := fun g => by
        have := sim_adv (p := p) HB0 (show p < 3 by omega) hc3 g.thr (K := upI (adv I 43 p c) 64 0 0) hw
        rw [Nat.zero_add] at this
        exact this
      have hg := hsim (h.1.keep (fun _ _ _ => rfl) (e64 _ _ (by decide)) (fun k => e64 _ _ (by decide)) (fun k _ => e64 _ _ (by decide)) (fun a k ha _ => e64 _ _ (by omega)) (fun k _ => e64 _ _ (by decide)))
      have hr : adv I 43 p c (45 + p) 0 = wkI (upI (adv I 43 p c) 64 0 0) p 0 c 68 p := by
        obtain ⟨w', q', -, -, b3, b4, -⟩ := hg.1 p (by omega)
        rw [Nat.zero_add] at b4
        exact b3.trans b4.symm
      refine ⟨by rw [wkI_hi (by omega), upI_s], fun _ => by rw [upJ_s, hr], c, h.two h.2.1 (fun a k ha => e64 a k (by omega)) (fun a k ha => e64 a k (by omega)) (fun a k ha => by rw [wkI_hi (by omega), upI_a (by omega)]) ⟨by rw [wkI_hi (by omega), upI_k (by decide)], by rw [wkI_hi (by omega), upI_k (by decide)], fun k => by rw [wkI_hi (by omega), upI_a (by decide)]⟩ ?_ hsim⟩
      obtain ⟨m, m1, m5, m3, m4⟩ := h.2.2.1
      exact ⟨m, m1, m5, by rw [adv_hi (by omega) hc3 (by omega)]; exact m3, by rw [wkI_hi (by omega), upI_k (by decide), e64 _ _ (by decide)]; exact m4⟩
    · refine ⟨_, w_step_S (nI p) I J (c_step_s I J hp hc3 hcI.1 hw), fun r I1 J1 q => ?_⟩
      obtain ⟨rfl, rfl, rfl⟩ := q
      refine ⟨_, r_step_s _ _ hp hc3 hcI.2 (by rw [a4, ← a3]; exact hw), fun b I2 J2 q => ?_⟩
      obtain ⟨rfl, rfl, rfl⟩ := q
      exact ⟨upI_s _ _ _ _, fun z => absurd z (by decide), c, h.thr⟩
  · refine ⟨_, w_step_A v I J (c_step_x v I J hx hc3 hcI.1), fun r I1 J1 q => ?_⟩
    obtain ⟨rfl, rfl, rfl⟩ := q
    refine ⟨_, r_step_x v _ _ (li_x h hx), fun b I2 J2 q => ?_⟩
    obtain ⟨rfl, rfl, rfl⟩ := q
    exact ⟨upI_s _ _ _ _, fun z => absurd z (by decide), c, h.thr⟩
theorem wd_eq {I : pI} {c i : Nat} (h : LI I c) (hi : i < 8) : nib (I 43 2) (nI i) = I 67 i := by
  have := h.1.2.1 i hi
  rw [Nat.zero_add] at this
  exact this
theorem rg_eq {I : pI} {c p i : Nat} (h : LI I c) (hp : p < 3) (hi : i < 6) : nib (I (45 + p) 2) (nI i) = I 70 (6 * p + i) := by
  obtain ⟨w, q0, -, -, -, -, -, -, a7, -⟩ := h.P hp
  exact a7 i hi
theorem i_le {v : Int32} {n : Nat} (hn : n < 2 ^ 30) : v ≤ nI n ↔ v < nI (n + 1) := by
  rw [Int32.le_iff_toInt_le, Int32.lt_iff_toInt_lt, nI_toInt (by omega), nI_toInt (by omega)]; omega
theorem i_le7 (v : Int32) : v ≤ 7 ↔ v < 8 := i_le (n := 7) (by decide)
theorem i_le5 (v : Int32) : v ≤ 5 ↔ v < 6 := i_le (n := 5) (by decide)
theorem i_le4 (v : Int32) : v ≤ 4 ↔ v < 5 := i_le (n := 4) (by decide)
theorem i_le39 (v : Int32) : v ≤ 39 ↔ v < 40 := i_le (n := 39) (by decide)
set_option maxRecDepth 100000 in
set_option maxHeartbeats 4000000 in
theorem k_word {I : pI} {c : Nat} (J : pJ) (v : Int32) (h : LI I c) : ∃ P1, pMet yL_word (pwh yL_word cL_word 4 (some .int) [(0, 9, 12, 35)]) { frames := 7, cells := 1, slots := 6, locals := 111 } [.ref 0, .int v, .ref 83] 84 I J pRs (pOi P1) ∧ ∀ r I1 J1, P1 r I1 J1 → ∃ P2, pMet yX6_word (pws yX6_word cX6_word 2 (some .int)) { frames := 1, cells := 0, slots := 0, locals := 22 } [.ref 64, .int v] 84 I1 J1 pRs (pOi P2) ∧ ∀ b I2 J2, P2 b I2 J2 → I2 64 0 = r ∧ (r = 0 → J2 83 0 = b.toInt64) ∧ ∃ c', LI I2 c' := by
  obtain ⟨hc1, hc3⟩ := h.2.1
  have hcI := h.c
  by_cases hx : 0 ≤ v ∧ v < 8
  · obtain ⟨i, hi, rfl⟩ := of_lt (n := 8) (by decide) hx
    refine ⟨_, w_word (nI i) I J (c_word I J hi), fun r I1 J1 q => ?_⟩
    obtain ⟨rfl, _, _, _, ⟨rfl, rfl, rfl⟩, rfl, rfl⟩ := q
    refine ⟨_, r_word _ _ hi, fun b I2 J2 q => ?_⟩
    obtain ⟨rfl, rfl, rfl⟩ := q
    exact ⟨upI_s _ _ _ _, fun _ => by rw [upJ_s, wd_eq h hi], c, h.thr⟩
  · refine ⟨_, w_word_B v I J (c_word_x v I J hx), fun r I1 J1 q => ?_⟩
    obtain ⟨rfl, rfl, rfl⟩ := q
    refine ⟨_, r_word_x v _ _ (show ¬ (0 ≤ v ∧ v ≤ 7) from fun z => hx ⟨z.1, (i_le7 v).mp z.2⟩), fun b I2 J2 q => ?_⟩
    obtain ⟨rfl, rfl, rfl⟩ := q
    exact ⟨upI_s _ _ _ _, fun z => absurd z (by decide), c, h.thr⟩
set_option maxRecDepth 100000 in
set_option maxHeartbeats 4000000 in
theorem k_register {I : pI} {c : Nat} (J : pJ) (v u : Int32) (h : LI I c) : ∃ P1, pMet yL_register (pwh yL_register cL_register 5 (some .int) [(0, 10, 13, 13), (0, 10, 17, 35)]) { frames := 8, cells := 2, slots := 12, locals := 134 } [.ref 0, .int v, .int u, .ref 83] 84 I J pRs (pOi P1) ∧ ∀ r I1 J1, P1 r I1 J1 → ∃ P2, pMet yX6_register (pws yX6_register cX6_register 4 (some .int)) { frames := 2, cells := 0, slots := 0, locals := 43 } [.ref 64, .int v, .int u] 84 I1 J1 pRs (pOi P2) ∧ ∀ b I2 J2, P2 b I2 J2 → I2 64 0 = r ∧ (r = 0 → J2 83 0 = b.toInt64) ∧ ∃ c', LI I2 c' := by
  obtain ⟨hc1, hc3⟩ := h.2.1
  have hcI := h.c
  by_cases hx : 0 ≤ v ∧ v < nI c
  · obtain ⟨p, hp, rfl⟩ := of_lt (by omega) hx
    by_cases hu : 0 ≤ u ∧ u < 6
    · obtain ⟨i, hi, rfl⟩ := of_lt (n := 6) (by decide) hu
      refine ⟨_, w_register (nI p) (nI i) I J (c_register I J hp hc3 hcI.1 hi), fun r I1 J1 q => ?_⟩
      obtain ⟨rfl, _, _, _, ⟨rfl, rfl, rfl⟩, rfl, rfl⟩ := q
      refine ⟨_, r_register _ _ hp hc3 hcI.2 hi, fun b I2 J2 q => ?_⟩
      obtain ⟨rfl, rfl, rfl⟩ := q
      exact ⟨upI_s _ _ _ _, fun _ => by rw [upJ_s, rg_eq h (show p < 3 by omega) hi], c, h.thr⟩
    · refine ⟨_, w_register_B (nI p) u I J (c_register_b u I J hp hc3 hcI.1 hu), fun r I1 J1 q => ?_⟩
      obtain ⟨rfl, rfl, rfl⟩ := q
      refine ⟨_, r_register_b u _ _ hp hc3 hcI.2 (fun z => hu ⟨z.1, (i_le5 u).mp z.2⟩), fun b I2 J2 q => ?_⟩
      obtain ⟨rfl, rfl, rfl⟩ := q
      exact ⟨upI_s _ _ _ _, fun z => absurd z (by decide), c, h.thr⟩
  · refine ⟨_, w_register_A v u I J (c_register_x v u I J hx hc3 hcI.1), fun r I1 J1 q => ?_⟩
    obtain ⟨rfl, rfl, rfl⟩ := q
    refine ⟨_, r_register_x v u _ _ (li_x h hx), fun b I2 J2 q => ?_⟩
    obtain ⟨rfl, rfl, rfl⟩ := q
    exact ⟨upI_s _ _ _ _, fun z => absurd z (by decide), c, h.thr⟩
theorem ab_eq {I : pI} {c p : Nat} {u : Int32} (h : LI I c) (hp : p < 3) : abV I (45 + p) u = abR I p u := by
  obtain ⟨w, q0, -, -, a3, a4, a5, a6, -⟩ := h.P hp
  have hX := h.1.2.2.2.2.2 rfl p hp
  rw [Nat.zero_add] at hX
  obtain ⟨x1, -, x3, x4⟩ := hX
  have e3 : I (45 + p) 3 = I 71 p := x1
  have e4 : I (45 + p) 4 = I 72 p := x3
  have e5 : I (45 + p) 5 = I 73 p := x4
  unfold abV abR
  rw [a3, a4, a5, a6, e3, e4, e5]
set_option maxRecDepth 100000 in
set_option maxHeartbeats 4000000 in
theorem k_about {I : pI} {c : Nat} (J : pJ) (v u : Int32) (h : LI I c) : ∃ P1, pMet yL_about (pwh yL_about cL_about 5 (some .int) [(0, 10, 13, 13)]) { frames := 8, cells := 2, slots := 12, locals := 134 } [.ref 0, .int v, .int u, .ref 83] 84 I J pRs (pOi P1) ∧ ∀ r I1 J1, P1 r I1 J1 → ∃ P2, pMet yX6_about (pws yX6_about cX6_about 3 (some .int)) { frames := 2, cells := 0, slots := 0, locals := 43 } [.ref 64, .int v, .int u] 84 I1 J1 pRs (pOi P2) ∧ ∀ b I2 J2, P2 b I2 J2 → I2 64 0 = r ∧ (r = 0 → J2 83 0 = b.toInt64) ∧ ∃ c', LI I2 c' := by
  obtain ⟨hc1, hc3⟩ := h.2.1
  have hcI := h.c
  by_cases hx : 0 ≤ v ∧ v < nI c
  · obtain ⟨p, hp, rfl⟩ := of_lt (by omega) hx
    by_cases hu : 0 ≤ u ∧ u < 5
    · refine ⟨_, w_about (nI p) u I J (c_about u I J hp hc3 hcI.1 hu), fun r I1 J1 q => ?_⟩
      obtain ⟨rfl, _, _, _, ⟨rfl, rfl, rfl⟩, rfl, rfl⟩ := q
      refine ⟨_, r_about u _ _ hp hc3 hcI.2 ⟨hu.1, (i_le4 u).mpr hu.2⟩, fun b I2 J2 q => ?_⟩
      obtain ⟨rfl, rfl, rfl⟩ := q
      exact ⟨upI_s _ _ _ _, fun _ => by rw [upJ_s, ab_eq h (by omega)], c, h.thr⟩
    · refine ⟨_, w_about_A (nI p) u I J (c_about_b u I J hp hc3 hcI.1 hu), fun r I1 J1 q => ?_⟩
      obtain ⟨rfl, rfl, rfl⟩ := q
      refine ⟨_, r_about_b u _ _ hp hc3 hcI.2 (fun z => hu ⟨z.1, (i_le4 u).mp z.2⟩), fun b I2 J2 q => ?_⟩
      obtain ⟨rfl, rfl, rfl⟩ := q
      exact ⟨upI_s _ _ _ _, fun z => absurd z (by decide), c, h.thr⟩
  · refine ⟨_, w_about_A v u I J (c_about_x v u I J hx hc3 hcI.1), fun r I1 J1 q => ?_⟩
    obtain ⟨rfl, rfl, rfl⟩ := q
    refine ⟨_, r_about_x v u _ _ (li_x h hx), fun b I2 J2 q => ?_⟩
    obtain ⟨rfl, rfl, rfl⟩ := q
    exact ⟨upI_s _ _ _ _, fun z => absurd z (by decide), c, h.thr⟩
theorem of_le {v : Int32} {n : Nat} (hn : n < 2 ^ 30) (h : 0 ≤ v ∧ v ≤ nI n) : ∃ t, t ≤ n ∧ v = nI t := by
  obtain ⟨p, hp, e⟩ := of_lt (n := n + 1) (by omega) ⟨h.1, (i_le hn).mp h.2⟩
  exact ⟨p, by omega, e⟩
set_option maxRecDepth 100000 in
set_option maxHeartbeats 4000000 in
theorem k_run {I : pI} {c : Nat} (J : pJ) (v u : Int32) (h : LI I c) : ∃ P1, pMet yL_run (pwh yL_run cL_run 5 (some .int) [(0, 10, 13, 13)]) { frames := 7, cells := 1, slots := 6, locals := 124 } [.ref 0, .int v, .int u, .ref 83] 84 I J pRs (pOi P1) ∧ ∀ r I1 J1, P1 r I1 J1 → ∃ P2, pMet yX6_run (pws yX6_run cX6_run 7 (some .int)) { frames := 3, cells := 0, slots := 0, locals := 76 } [.ref 64, .int v, .int u] 84 I1 J1 pRs (pOi P2) ∧ ∀ b I2 J2, P2 b I2 J2 → I2 64 0 = r ∧ (r = 0 → J2 83 0 = b.toInt64) ∧ ∃ c', LI I2 c' := by
  obtain ⟨hc1, hc3⟩ := h.2.1
  have hcI := h.c
  by_cases hx : 0 ≤ u ∧ u ≤ 2000
  · obtain ⟨t, ht, rfl⟩ := of_le (n := 2000) (by decide) hx
    refine ⟨_, w_run v (nI t) I J (c_run v I I J hc1 hc3 ht h.1), fun r I1 J1 q => ?_⟩
    obtain ⟨rfl, _, _, _, ⟨rfl, rfl, rfl⟩, rfl, rfl⟩ := q
    have e64 : ∀ a k, 48 ≤ a → (rnC c t v 0 I).2 a k = I a k := fun a k ha => rnC_hi hc1 hc3 (by omega) t v 0 I
    have g : HRel I (rnC c t v 0 I).2 43 0 0 c := h.1.keep (fun _ _ _ => rfl) (e64 _ _ (by decide)) (fun k => e64 _ _ (by decide)) (fun k _ => e64 _ _ (by decide)) (fun a k ha _ => e64 _ _ (by omega)) (fun k _ => e64 _ _ (by decide))
    refine ⟨_, r_run v I _ _ hc1 hc3 ht g.thr, fun b I2 J2 q => ?_⟩
    obtain ⟨rfl, rfl, rfl⟩ := q
    obtain ⟨s1, s2⟩ := sim_run hc1 hc3 t v 0 I (upI (rnC c t v 0 I).2 64 0 0) g.thr
    refine ⟨by rw [rnR_hi (by omega), upI_s], fun _ => by rw [upJ_s, s1], c, h.two h.2.1 (fun a k ha => e64 a k (by omega)) (fun a k ha => e64 a k (by omega)) (fun a k ha => by rw [rnR_hi (by omega), upI_a (by omega)]) ⟨by rw [rnR_hi (by omega), upI_k (by decide)], by rw [rnR_hi (by omega), upI_k (by decide)], fun k => by rw [rnR_hi (by omega), upI_a (by decide)]⟩ ?_ (fun _ => s2)⟩
    obtain ⟨m, m1, m5, m3, m4⟩ := h.2.2.1
    exact ⟨m, m1, m5, by rw [rnC_hi hc1 hc3 (by omega)]; exact m3, by rw [rnR_hi (by omega), upI_k (by decide), e64 _ _ (by decide)]; exact m4⟩
  · refine ⟨_, w_run_A v u I J (c_run_x v u I J hx), fun r I1 J1 q => ?_⟩
    obtain ⟨rfl, rfl, rfl⟩ := q
    refine ⟨_, r_run_x v u _ _ hx, fun b I2 J2 q => ?_⟩
    obtain ⟨rfl, rfl, rfl⟩ := q
    exact ⟨upI_s _ _ _ _, fun z => absurd z (by decide), c, h.thr⟩
theorem tr_x {v : Int32} {n : Nat} (hn : n ≤ 3000) (hm : ¬ v = -1) (h : -1 ≤ v ∧ v ≤ nI n - 1) : 0 ≤ v ∧ v < nI n := by
  have h1 : (-1 : Int32).toInt = -1 := by decide
  have h0 : (0 : Int32).toInt = 0 := by decide
  have e1 := Int32.le_iff_toInt_le.mp h.1
  have e2 : v.toInt ≤ (nI n - nI 1).toInt := Int32.le_iff_toInt_le.mp h.2
  rw [pk_sub_toInt (b := 1) (show n < 2 ^ 30 by omega) (by decide)] at e2
  have hne : v.toInt ≠ -1 := fun z => hm (Int32.toInt_inj.mp (z.trans h1.symm))
  rw [h1] at e1
  refine ⟨Int32.le_iff_toInt_le.mpr (by omega), Int32.lt_iff_toInt_lt.mpr ?_⟩
  rw [nI_toInt (by omega)]
  omega
set_option maxRecDepth 100000 in
set_option maxHeartbeats 4000000 in
theorem k_trail {I : pI} {c : Nat} (J : pJ) (v : Int32) (h : LI I c) : ∃ P1, pMet yL_trail (pwh yL_trail cL_trail 4 (some .int) [(0, 9, 12, 35)]) { frames := 7, cells := 1, slots := 6, locals := 111 } [.ref 0, .int v, .ref 83] 84 I J pRs (pOi P1) ∧ ∀ r I1 J1, P1 r I1 J1 → ∃ P2, pMet yX6_trail (pws yX6_trail cX6_trail 2 (some .int)) { frames := 1, cells := 0, slots := 0, locals := 22 } [.ref 64, .int v] 84 I1 J1 pRs (pOi P2) ∧ ∀ b I2 J2, P2 b I2 J2 → I2 64 0 = r ∧ (r = 0 → J2 83 0 = b.toInt64) ∧ ∃ c', LI I2 c' := by
  obtain ⟨n, n1, n2, n3, n4⟩ := h.2.2.2.2
  by_cases hm : v = -1
  · subst hm
    refine ⟨_, w_trail (-1) I J (c_trail_n I J), fun r I1 J1 q => ?_⟩
    obtain ⟨rfl, _, _, _, ⟨rfl, rfl, rfl⟩, rfl, rfl⟩ := q
    refine ⟨_, r_trail_n _ _ n1 n3, fun b I2 J2 q => ?_⟩
    obtain ⟨rfl, rfl, rfl⟩ := q
    exact ⟨upI_s _ _ _ _, fun _ => by rw [upJ_s, n2, ← n3], c, h.thr⟩
  · by_cases hx : 0 ≤ v ∧ v < nI n
    · obtain ⟨i, hi, rfl⟩ := of_lt (by omega) hx
      refine ⟨_, w_trail (nI i) I J (c_trail I J hi n1 n2), fun r I1 J1 q => ?_⟩
      obtain ⟨rfl, _, _, _, ⟨rfl, rfl, rfl⟩, rfl, rfl⟩ := q
      refine ⟨_, r_trail _ _ hi n1 n3, fun b I2 J2 q => ?_⟩
      obtain ⟨rfl, rfl, rfl⟩ := q
      exact ⟨upI_s _ _ _ _, fun _ => by rw [upJ_s, n4 i hi], c, h.thr⟩
    · refine ⟨_, w_trail_B v I J (c_trail_x v I J hm hx n2), fun r I1 J1 q => ?_⟩
      obtain ⟨rfl, rfl, rfl⟩ := q
      refine ⟨_, r_trail_x v _ _ (by rw [n3]; exact fun z => hx (tr_x n1 hm z)), fun b I2 J2 q => ?_⟩
      obtain ⟨rfl, rfl, rfl⟩ := q
      exact ⟨upI_s _ _ _ _, fun z => absurd z (by decide), c, h.thr⟩
set_option maxRecDepth 100000 in
set_option maxHeartbeats 4000000 in
theorem k_exhibit {I : pI} {c : Nat} (J : pJ) (v u : Int32) (h : LI I c) : ∃ P1, pMet yL_exhibit (pwh yL_exhibit cL_exhibit 4 (some .int) [(0, 6, 9, 13)]) { frames := 7, cells := 1, slots := 6, locals := 112 } [.ref 0, .int v, .int u] 84 I J pRs (pOi P1) ∧ ∀ r I1 J1, P1 r I1 J1 → ∃ P2, pMet yX6_exhibit (pws yX6_exhibit cX6_exhibit 4 none) { frames := 4, cells := 0, slots := 0, locals := 86 } [.ref 64, .int v, .int u] 84 I1 J1 pRs (pOv P2) ∧ ∀ I2 J2, P2 I2 J2 → I2 64 0 = r ∧ ∃ c', LI I2 c' := by
  by_cases hx : exOK v u
  · obtain ⟨m, m5, rfl⟩ := of_le (n := 5) (by decide) ⟨Int32.le_trans (show (0 : Int32) ≤ 1 by decide) hx.1.1, hx.1.2⟩
    obtain ⟨d, d3, rfl⟩ := of_le (n := 3) (by decide) ⟨Int32.le_trans (show (0 : Int32) ≤ 1 by decide) hx.2.1.1, hx.2.1.2⟩
    have m1 : 1 ≤ m := (nI_leI (a := 1) (b := m) (by decide) (by omega)).mp hx.1.1
    have d1 : 1 ≤ d := (nI_leI (a := 1) (b := d) (by decide) (by omega)).mp hx.2.1.1
    refine ⟨_, w_exhibit (nI m) (nI d) I J (c_exhibit (nI m) (nI d) I J hx), fun r I1 J1 q => ?_⟩
    obtain ⟨rfl, rfl, rfl⟩ := q
    refine ⟨_, r_exhibit (nI m) (nI d) _ _ hx, fun I2 J2 q => ?_⟩
    obtain ⟨rfl, rfl⟩ := q
    exact ⟨exR_64.1, d, h.exhibit m1 m5 d1 d3⟩
  · refine ⟨_, w_exhibit_A v u I J (c_exhibit_x v u I J hx), fun r I1 J1 q => ?_⟩
    obtain ⟨rfl, rfl, rfl⟩ := q
    refine ⟨_, r_exhibit_x v u _ _ hx, fun I2 J2 q => ?_⟩
    obtain ⟨rfl, rfl⟩ := q
    exact ⟨upI_s _ _ _ _, c, h.thr⟩
theorem op_mb {k : Nat} {a b d : Int32} (hk : k < 14) : (opF k 0 a ∧ opF k 1 b ∧ opF k 2 d) ↔ mbP (nI k) a b d := by
  have l5 : ∀ x : Int32, x < 6 ↔ x ≤ 5 := fun x => (i_le5 x).symm
  have l39 : ∀ x : Int32, x < 40 ↔ x ≤ 39 := fun x => (i_le39 x).symm
  have l7 : ∀ x : Int32, x < 8 ↔ x ≤ 7 := fun x => (i_le7 x).symm
  have l15 : ∀ x : Int32, x < 16 ↔ x ≤ 15 := fun x => (i_le (n := 15) (by decide)).symm
  have l6 : ∀ x : Int32, x < 7 ↔ x ≤ 6 := fun x => (i_le (n := 6) (by decide)).symm
  rcases (show k = 0 ∨ k = 1 ∨ k = 2 ∨ k = 3 ∨ k = 4 ∨ k = 5 ∨ k = 6 ∨ k = 7 ∨ k = 8 ∨ k = 9 ∨ k = 10 ∨ k = 11 ∨ k = 12 ∨ k = 13 by omega) with rfl | rfl | rfl | rfl | rfl | rfl | rfl | rfl | rfl | rfl | rfl | rfl | rfl | rfl
  · unfold opF mbP
    rw [show opLim.getD (3 * 0 + 0) 0 = (6 : Int32) by rfl, show opLim.getD (3 * 0 + 1) 0 = (16 : Int32) by rfl, show opLim.getD (3 * 0 + 2) 0 = (0 : Int32) by rfl]
    simp (decide := true) [l5, l39, l7, l15, l6, isR, isPl]
  · unfold opF mbP
    rw [show opLim.getD (3 * 1 + 0) 0 = (6 : Int32) by rfl, show opLim.getD (3 * 1 + 1) 0 = (16 : Int32) by rfl, show opLim.getD (3 * 1 + 2) 0 = (0 : Int32) by rfl]
    simp (decide := true) [l5, l39, l7, l15, l6, isR, isPl]
  · unfold opF mbP
    rw [show opLim.getD (3 * 2 + 0) 0 = (6 : Int32) by rfl, show opLim.getD (3 * 2 + 1) 0 = (6 : Int32) by rfl, show opLim.getD (3 * 2 + 2) 0 = (0 : Int32) by rfl]
    simp (decide := true) [l5, l39, l7, l15, l6, isR, isPl]
  · unfold opF mbP
    rw [show opLim.getD (3 * 3 + 0) 0 = (6 : Int32) by rfl, show opLim.getD (3 * 3 + 1) 0 = (6 : Int32) by rfl, show opLim.getD (3 * 3 + 2) 0 = (40 : Int32) by rfl]
    simp (decide := true) [l5, l39, l7, l15, l6, isR, isPl]
  · unfold opF mbP
    rw [show opLim.getD (3 * 4 + 0) 0 = (6 : Int32) by rfl, show opLim.getD (3 * 4 + 1) 0 = (6 : Int32) by rfl, show opLim.getD (3 * 4 + 2) 0 = (40 : Int32) by rfl]
    simp (decide := true) [l5, l39, l7, l15, l6, isR, isPl]
  · unfold opF mbP
    rw [show opLim.getD (3 * 5 + 0) 0 = (0 : Int32) by rfl, show opLim.getD (3 * 5 + 1) 0 = (0 : Int32) by rfl, show opLim.getD (3 * 5 + 2) 0 = (40 : Int32) by rfl]
    simp (decide := true) [l5, l39, l7, l15, l6, isR, isPl]
  · unfold opF mbP
    rw [show opLim.getD (3 * 6 + 0) 0 = (0 : Int32) by rfl, show opLim.getD (3 * 6 + 1) 0 = (0 : Int32) by rfl, show opLim.getD (3 * 6 + 2) 0 = (0 : Int32) by rfl]
    simp (decide := true) [l5, l39, l7, l15, l6, isR, isPl]
  · unfold opF mbP
    rw [show opLim.getD (3 * 7 + 0) 0 = (6 : Int32) by rfl, show opLim.getD (3 * 7 + 1) 0 = (8 : Int32) by rfl, show opLim.getD (3 * 7 + 2) 0 = (7 : Int32) by rfl]
    simp (decide := true) [l5, l39, l7, l15, l6, isR, isPl]
  · unfold opF mbP
    rw [show opLim.getD (3 * 8 + 0) 0 = (6 : Int32) by rfl, show opLim.getD (3 * 8 + 1) 0 = (8 : Int32) by rfl, show opLim.getD (3 * 8 + 2) 0 = (7 : Int32) by rfl]
    simp (decide := true) [l5, l39, l7, l15, l6, isR, isPl]
  · unfold opF mbP
    rw [show opLim.getD (3 * 9 + 0) 0 = (6 : Int32) by rfl, show opLim.getD (3 * 9 + 1) 0 = (8 : Int32) by rfl, show opLim.getD (3 * 9 + 2) 0 = (7 : Int32) by rfl]
    simp (decide := true) [l5, l39, l7, l15, l6, isR, isPl]
  · unfold opF mbP
    rw [show opLim.getD (3 * 10 + 0) 0 = (6 : Int32) by rfl, show opLim.getD (3 * 10 + 1) 0 = (8 : Int32) by rfl, show opLim.getD (3 * 10 + 2) 0 = (16 : Int32) by rfl]
    simp (decide := true) [l5, l39, l7, l15, l6, isR, isPl]
  · unfold opF mbP
    rw [show opLim.getD (3 * 11 + 0) 0 = (6 : Int32) by rfl, show opLim.getD (3 * 11 + 1) 0 = (8 : Int32) by rfl, show opLim.getD (3 * 11 + 2) 0 = (6 : Int32) by rfl]
    simp (decide := true) [l5, l39, l7, l15, l6, isR, isPl]
  · unfold opF mbP
    rw [show opLim.getD (3 * 12 + 0) 0 = (0 : Int32) by rfl, show opLim.getD (3 * 12 + 1) 0 = (0 : Int32) by rfl, show opLim.getD (3 * 12 + 2) 0 = (0 : Int32) by rfl]
    simp (decide := true) [l5, l39, l7, l15, l6, isR, isPl]
  · unfold opF mbP
    rw [show opLim.getD (3 * 13 + 0) 0 = (0 : Int32) by rfl, show opLim.getD (3 * 13 + 1) 0 = (0 : Int32) by rfl, show opLim.getD (3 * 13 + 2) 0 = (0 : Int32) by rfl]
    simp (decide := true) [l5, l39, l7, l15, l6, isR, isPl]
theorem mb_kind {k a b d : Int32} (h : mbP k a b d) : 0 ≤ k ∧ k < 14 := by
  have e : k = 0 ∨ k = 1 ∨ k = 2 ∨ k = 3 ∨ k = 4 ∨ k = 5 ∨ k = 6 ∨ k = 7 ∨ k = 8 ∨ k = 9 ∨ k = 10 ∨ k = 11 ∨ k = 12 ∨ k = 13 := by
    unfold mbP at h
    repeat' split at h
    all_goals first | (simp_all; done) | (rename_i g; rcases g with g | g | g <;> simp [g]; done) | (rename_i g; rcases g with g | g <;> simp [g]; done) | (rcases h with g | g | g <;> simp [g])
  rcases e with rfl | rfl | rfl | rfl | rfl | rfl | rfl | rfl | rfl | rfl | rfl | rfl | rfl | rfl <;> decide
theorem chR_o {K : pI} {i a k : Nat} {p q r s : Int32} (h : a ≠ 65 ∨ k < 4 * i ∨ 4 * i + 4 ≤ k) : chR K i p q r s a k = K a k := by
  unfold chR
  rcases h with h | h
  · rw [upI_a h, upI_a h, upI_a h, upI_a h]
  · rw [upI_k (by omega), upI_k (by omega), upI_k (by omega), upI_k (by omega)]
theorem G_change {I K : pI} {i : Nat} {k a b d : Int32} (h : GRel I K) (hm : mbP k a b d) : GRel (bcI I (3 + i) k a b d) (chR K i k a b d) := by
  intro j hj
  by_cases e : j = i
  · subst e
    have e0 : chR K j k a b d 65 (4 * j) = k := by unfold chR; rw [upI_k (by omega), upI_k (by omega), upI_k (by omega), upI_s]
    have e1 : chR K j k a b d 65 (4 * j + 1) = a := by unfold chR; rw [upI_k (by omega), upI_k (by omega), upI_s]
    have e2 : chR K j k a b d 65 (4 * j + 2) = b := by unfold chR; rw [upI_k (by omega), upI_s]
    have e3 : chR K j k a b d 65 (4 * j + 3) = d := by unfold chR; rw [upI_s]
    rw [e0, e1, e2, e3, bcI_s (by decide), bcI_s (by decide), bcI_s (by decide), bcI_s (by decide)]
    exact ⟨⟨rfl, rfl, rfl, rfl⟩, hm⟩
  · rw [bcI_o (by omega), bcI_o (by omega), bcI_o (by omega), bcI_o (by omega), chR_o (by omega), chR_o (by omega), chR_o (by omega), chR_o (by omega)]
    exact h j hj
set_option maxRecDepth 100000 in
set_option maxHeartbeats 4000000 in
theorem k_change {I : pI} {c : Nat} (J : pJ) (v u a b d : Int32) (h : LI I c) : ∃ P1, pMet yL_change (pwh yL_change cL_change 7 (some .int) [(0, 11, 14, 13)]) { frames := 7, cells := 1, slots := 6, locals := 115 } [.ref 0, .int v, .int u, .int a, .int b, .int d] 84 I J pRs (pOi P1) ∧ ∀ r I1 J1, P1 r I1 J1 → ∃ P2, pMet yX6_change (pws yX6_change cX6_change 6 none) { frames := 3, cells := 0, slots := 0, locals := 65 } [.ref 64, .int v, .int u, .int a, .int b, .int d] 84 I1 J1 pRs (pOv P2) ∧ ∀ I2 J2, P2 I2 J2 → I2 64 0 = r ∧ ∃ c', LI I2 c' := by
  by_cases hx : 0 ≤ v ∧ v < 40
  · obtain ⟨i, hi, rfl⟩ := of_lt (n := 40) (by decide) hx
    by_cases hm : mbP u a b d
    · obtain ⟨k, hk, rfl⟩ := of_lt (n := 14) (by decide) (mb_kind hm)
      obtain ⟨o1, o2, o3⟩ := (op_mb hk).mpr hm
      refine ⟨_, w_change (nI i) (nI k) a b d I J (c_change a b d I J hi hk o1 o2 o3), fun r I1 J1 q => ?_⟩
      obtain ⟨rfl, rfl, rfl⟩ := q
      refine ⟨_, r_change (nI k) a b d _ _ hi hm, fun I2 J2 q => ?_⟩
      obtain ⟨rfl, rfl⟩ := q
      have e64 : ∀ x y, 43 ≤ x → bcI I (3 + i) (nI k) a b d x y = I x y := fun x y hx => bcI_o (by omega)
      have c64 : ∀ (K : pI) x y, x ≠ 65 → chR K i (nI k) a b d x y = K x y := fun K x y hx => chR_o (Or.inl hx)
      refine ⟨by rw [c64 _ _ _ (by decide), upI_s], c, h.two h.2.1 (fun x y hx => e64 x y (by omega)) (fun x y hx => e64 x y (by omega)) (fun x y hx => by rw [c64 _ _ _ (by omega), upI_a (by omega)]) ⟨by rw [c64 _ _ _ (by decide), upI_k (by decide)], by rw [c64 _ _ _ (by decide), upI_k (by decide)], fun y => by rw [c64 _ _ _ (by decide), upI_a (by decide)]⟩ ?_ (fun g => ?_)⟩
      · obtain ⟨m, m1, m5, m3, m4⟩ := h.2.2.1
        exact ⟨m, m1, m5, by rw [bcI_o (by omega)]; exact m3, by rw [c64 _ _ _ (by decide), upI_k (by decide), e64 _ _ (by decide)]; exact m4⟩
      · obtain ⟨r1, r2, r3, r4, r5, r6⟩ := g.thr (v := 0)
        refine ⟨fun j hj => (r1 j hj).congr (e64 _ _ (by omega)) (e64 _ _ (by omega)) (e64 _ _ (by omega)) (c64 _ _ _ (by decide)) (c64 _ _ _ (by decide)) (fun r hr => c64 _ _ _ (by decide)), fun y hy => by rw [e64 _ _ (by omega), c64 _ _ _ (by decide)]; exact r2 y hy, G_change r3 hm, by rw [e64 _ _ (by omega)]; exact r4, by rw [c64 _ _ _ (by decide)]; exact r5, fun z j hj => ?_⟩
        have hX := r6 z j hj
        unfold XRel at hX ⊢
        rw [e64 _ _ (by omega), e64 _ _ (by omega), e64 _ _ (by omega), c64 _ _ _ (by decide), c64 _ _ _ (by decide), c64 _ _ _ (by decide)]
        exact hX
    · by_cases hu : 0 ≤ u ∧ u < 14
      · obtain ⟨k, hk, rfl⟩ := of_lt (n := 14) (by decide) hu
        refine ⟨_, w_change_A (nI i) (nI k) a b d I J (c_change_3 a b d I J hi hk (fun z => hm ((op_mb hk).mp z))), fun r I1 J1 q => ?_⟩
        obtain ⟨rfl, rfl, rfl⟩ := q
        refine ⟨_, r_change_2 (nI k) a b d _ _ hi hm, fun I2 J2 q => ?_⟩
        obtain ⟨rfl, rfl⟩ := q
        exact ⟨upI_s _ _ _ _, c, h.thr⟩
      · refine ⟨_, w_change_A (nI i) u a b d I J (c_change_2 u a b d I J hi hu), fun r I1 J1 q => ?_⟩
        obtain ⟨rfl, rfl, rfl⟩ := q
        refine ⟨_, r_change_2 u a b d _ _ hi hm, fun I2 J2 q => ?_⟩
        obtain ⟨rfl, rfl⟩ := q
        exact ⟨upI_s _ _ _ _, c, h.thr⟩
  · refine ⟨_, w_change_A v u a b d I J (c_change_1 v u a b d I J hx), fun r I1 J1 q => ?_⟩
    obtain ⟨rfl, rfl, rfl⟩ := q
    refine ⟨_, r_change_1 v u a b d _ _ (fun z => hx ⟨z.1, (i_le39 v).mp z.2⟩), fun I2 J2 q => ?_⟩
    obtain ⟨rfl, rfl⟩ := q
    exact ⟨upI_s _ _ _ _, c, h.thr⟩
set_option maxRecDepth 100000 in
set_option maxHeartbeats 4000000 in
theorem k_judge {I : pI} {c : Nat} (J : pJ) (v : Int32) (h : LI I c) : ∃ P1, pMet yL_judge (pwh yL_judge cL_judge 4 (some .int) [(0, 9, 12, 13)]) { frames := 7, cells := 1, slots := 6, locals := 171 } [.ref 0, .int v, .ref 83] 84 I J pRs (pOi P1) ∧ ∀ r I1 J1, P1 r I1 J1 → ∃ P2, pMet yX6_judge (pws yX6_judge cX6_judge 4 (some .int)) { frames := 5, cells := 0, slots := 0, locals := 120 } [.ref 64, .int v] 84 I1 J1 pRs (pOi P2) ∧ ∀ b I2 J2, P2 b I2 J2 → I2 64 0 = r ∧ (r = 0 → J2 83 0 = b.toInt64) ∧ ∃ c', LI I2 c' := by
  obtain ⟨hc1, hc3⟩ := h.2.1
  have hcI := h.c
  by_cases hx : 1 ≤ v ∧ v ≤ 3
  · obtain ⟨t, t3, rfl⟩ := of_le (n := 3) (by decide) ⟨Int32.le_trans (show (0 : Int32) ≤ 1 by decide) hx.1, hx.2⟩
    have t1 : 1 ≤ t := (nI_leI (a := 1) (b := t) (by decide) (by omega)).mp hx.1
    have hG := h.1.2.2.1
    have i0 := j_init (I := I) (K := I) (J := J) (JK := J) hc3 t3 hG hcI.2
    obtain ⟨to1, e1⟩ := j_end (I := I) (K := I) (J := J) (JK := J) hc3 t3 hG hcI.2
    refine ⟨_, w_judge (nI t) I J (c_judge I J t1 t3 hc3 hcI.1 i0 e1), fun r I1 J1 q => ?_⟩
    obtain ⟨rfl, v9, Ia, Ja, hCJ, rfl, rfl⟩ := q
    obtain ⟨f1, f2, f3, f4, f5, f6⟩ := id hCJ
    have hG1 : GRel I I1 := hG.congr (fun _ _ _ => rfl) (fun k => f1 _ _ (by omega))
    have hc1' : I1 64 2 = nI c := by rw [f1 _ _ (by omega)]; exact hcI.2
    obtain ⟨to2, e2⟩ := j_end (I := I) (K := I1) (J := J) (JK := upJ Ja 83 0 v9.toInt64) hc3 t3 hG1 hc1'
    refine ⟨_, r_judge (C := I) (JC0 := J) (x := jX I J c t) _ _ hc3 t1 t3 hG1 hc1' rfl e2, fun b I2 J2 q => ?_⟩
    obtain ⟨hr, hfo, n, n1, n2, n3, n4⟩ := judge_alike hCJ e1 e2 q
    · obtain ⟨⟨F1, F2, F3, F4, F5, F6⟩, -⟩ := q
      have lo : ∀ a k, a < 64 → I2 a k = I1 a k := fun a k ha => by
        have := F1 a k (by omega)
        simp only [show ¬ a = 82 by omega, show ¬ (a = 64 ∧ k = 21) by omega, if_false] at this
        rw [this]
        unfold rjI fdK
        rw [upI_a (by omega), upI_a (by omega), rjA_o (by omega)]
      have k64 : ∀ k, k ≠ 12 → k ≠ 21 → I2 64 k = rjI I1 c t 64 k := fun k h1 h2 => by
        have := F2 k h1
        simp only [show ¬ (64 : Nat) = 82 by decide, h2, and_false, if_false] at this
        exact this
      have r64 : ∀ k, k ≠ 0 → k ≠ 12 → k ≠ 21 → rjI I1 c t 64 k = I1 64 k := fun k h0 h1 h2 => by
        unfold rjI fdK; rw [upI_k h1, upI_a (by decide), rjA_64 h0 h1 h2]
      refine ⟨?_, fun _ => ?_, c, ?_⟩
      · rw [k64 0 (by decide) (by decide)]; unfold rjI fdK; rw [upI_k (by decide), upI_a (by decide)]; exact rjA_0.1
      · rw [F6 83 0 (by omega), upJ_s, hr]
      · refine ⟨h.1.keep (fun a k ha => by rw [lo _ _ (by omega), f1 _ _ (by omega)]) (by rw [k64 2 (by decide) (by decide), r64 2 (by decide) (by decide) (by decide), f1 _ _ (by omega)]) (fun k => ?_) (fun k hk => ?_) (fun a k ha hk => ?_) (fun k hk => ?_), h.2.1, ?_, by rw [lo _ _ (by decide), hfo], n, n1, by rw [lo _ _ (by decide)]; exact n2, n3, fun j hj => by rw [lo _ _ (by decide)]; exact n4 j hj⟩
        · have := F1 65 k (by omega)
          simp only [show ¬ (65 : Nat) = 82 by decide, show ¬ ((65 : Nat) = 64 ∧ k = 21) by omega, if_false] at this
          rw [this]; unfold rjI fdK; rw [upI_a (by decide), upI_a (by decide), rjA_o (by omega), f1 _ _ (by omega)]
        · have := F3 k hk
          simp only [show ¬ (67 : Nat) = 82 by decide, show ¬ ((67 : Nat) = 64 ∧ k = 21) by omega, if_false] at this
          rw [this]; unfold rjI fdK; rw [upI_a (by decide), upI_a (by decide), rjA_m.1 hk, f1 _ _ (by omega)]
        · have := F4 a k ha hk
          simp only [show ¬ a = 82 by omega, show ¬ (a = 64 ∧ k = 21) by omega, if_false] at this
          rw [this]; unfold rjI fdK; rw [upI_a (by omega), upI_a (by omega)]
          rcases ha with rfl | rfl | ha
          · rw [(rjA_m.2.1 hk).1, f1 _ _ (by omega)]
          · rw [(rjA_m.2.1 hk).2, f1 _ _ (by omega)]
          · rw [rjA_o (by omega), f1 _ _ (by omega)]
        · have := F5 k hk
          simp only [show ¬ (70 : Nat) = 82 by decide, show ¬ ((70 : Nat) = 64 ∧ k = 21) by omega, if_false] at this
          rw [this]; unfold rjI fdK; rw [upI_a (by decide), upI_a (by decide), rjA_m.2.2 hk, f1 _ _ (by omega)]
        · obtain ⟨m, m1, m5, m3, m4⟩ := h.2.2.1
          exact ⟨m, m1, m5, by rw [lo _ _ (by decide), f1 _ _ (by omega)]; exact m3, by rw [k64 1 (by decide) (by decide), r64 1 (by decide) (by decide) (by decide), f1 _ _ (by omega)]; exact m4⟩
  · refine ⟨_, w_judge_A v I J (c_judge_x v I J hx), fun r I1 J1 q => ?_⟩
    obtain ⟨rfl, rfl, rfl⟩ := q
    refine ⟨_, r_judge_x v _ _ hx, fun b I2 J2 q => ?_⟩
    obtain ⟨rfl, rfl, rfl⟩ := q
    exact ⟨upI_s _ _ _ _, fun z => absurd z (by decide), c, h.thr⟩
