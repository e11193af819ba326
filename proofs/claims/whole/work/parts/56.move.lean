/-! an attempt begins; a move; on both sides -/
theorem atI_P {K : pI} {P P' x : Nat} {v : Int32} (hx : x ≠ 70) (h : P' ≠ P) : atI K P v x P' = K x P' := by
  unfold atI; rw [upI_k h, upI_k h, upI_k h, upI_a hx, upI_a hx, upI_k h, reI_P hx h]
theorem atI_70 {K : pI} {P k : Nat} {v : Int32} (h : k < 6 * P ∨ 6 * P + 6 ≤ k) : atI K P v 70 k = K 70 k := by
  unfold atI; rw [upI_a (by decide), upI_a (by decide), upI_a (by decide), upI_k (by omega), upI_k (by omega), upI_a (by decide), reI_70 h]
theorem atI_r {K : pI} {P r : Nat} {v : Int32} (h : r < 6) : atI K P v 70 (6 * P + r) = if r = 0 then v else if r = 1 then K 64 2 else 0 := by
  unfold atI
  rw [upI_a (by decide), upI_a (by decide), upI_a (by decide)]
  by_cases h1 : r = 1
  · subst h1; rw [upI_s]; rfl
  · rw [upI_k (by omega)]
    by_cases h0 : r = 0
    · subst h0; rw [Nat.add_zero, upI_s, if_pos rfl]
    · rw [upI_k (by omega), upI_a (by decide), reI_z h, if_neg h0, if_neg h1]
theorem beg_nib {p c r : Nat} (hp : p ≤ 15) (hc : c ≤ 15) (hr : r < 8) : nib (wnib (wnib 0 0 (nI p)) 1 (nI c)) (nI r) = if r = 0 then nI p else if r = 1 then nI c else 0 := by
  show nib (wnib (wnib 0 (nI 0) (nI p)) (nI 1) (nI c)) (nI r) = _
  by_cases h1 : r = 1
  · subst h1; rw [nib_wnib_s (by decide), and15 c (by omega), i_le15 hc]; rfl
  · rw [nib_wnib_n (by decide) hr h1]
    by_cases h0 : r = 0
    · subst h0; rw [nib_wnib_s (by decide), and15 p (by omega), i_le15 hp, if_pos rfl]
    · rw [nib_wnib_n (by decide) hr h0, nib_0 hr, if_neg h0, if_neg h1]
theorem begI_own {I : pI} {a : Nat} {x y : Int32} : begI I a x y a 0 = 1 ∧ begI I a x y a 1 = 0 ∧ begI I a x y a 2 = wnib (wnib 0 0 x) 1 y ∧ begI I a x y a 3 = 0 ∧ begI I a x y a 4 = 0 ∧ begI I a x y a 5 = 0 := by
  refine ⟨?_, ?_, ?_, ?_, ?_, ?_⟩ <;> simp [begI, upI]
theorem sim_begin {I K : pI} {h b o c p : Nat} (h0 : HRel I K h b o c) (hB : HB h b o) (hp : p < 3) (hc : c ≤ 3) : HRel (begI I (h + 2 + p) (nI p) (nI c)) (atI K (o + p) (nI p)) h b o c := by
  have hh := hB.h
  obtain ⟨b0, b1, b2, b3, b4, b5⟩ := begI_own (I := I) (a := h + 2 + p) (x := nI p) (y := nI c)
  refine h0.step hB hp (fun x k h1 _ => begI_o h1) (fun k => ⟨atI_o (by decide), atI_o (by decide)⟩) (fun P' hP => ⟨atI_P (by decide) hP, atI_P (by decide) hP, atI_P (by decide) hP, atI_P (by decide) hP, atI_P (by decide) hP⟩) (fun k hk => atI_70 hk) ?_ ?_ ?_
  · refine ⟨1, 0, by decide, by decide, b0, ?_, b1, atI_pl, fun r hr => ?_, ⟨?_, ?_⟩, fun z => absurd z (by decide)⟩
    · unfold atI; rw [upI_a (by decide), upI_a (by decide), upI_a (by decide), upI_a (by decide), upI_a (by decide), upI_s]; rfl
    · rw [b2, beg_nib (by omega) (by omega) (by omega), atI_r hr, h0.2.2.2.2.1]
    · rw [b2, beg_nib (by omega) (by omega) (by decide)]; rfl
    · rw [b2, beg_nib (by omega) (by omega) (by decide)]; rfl
  · intro k hk; rw [begI_o (by omega), atI_o (by decide)]; exact h0.2.1 k hk
  · intro hb
    refine ⟨?_, Or.inl b3, ?_, ?_⟩
    · rw [b3]; unfold atI; rw [upI_a (by decide), upI_a (by decide), upI_s]
    · rw [b4]; unfold atI; rw [upI_a (by decide), upI_s]
    · rw [b5]; unfold atI; rw [upI_s]
/-- what it is, is written on both sides (not idle) -/
theorem sim_what {I K : pI} {h b o c p v : Nat} (h0 : HRel I K h b o c) (hB : HB h b o) (hp : p < 3) (hv : v ≠ 0) (hv4 : v ≤ 4) : HRel (upI I (h + 2 + p) 0 (nI v)) (upI K 68 (o + p) (nI v)) h b o c := by
  have hh := hB.h
  refine h0.step hB hp (fun x k h1 _ => upI_a h1) (fun k => ⟨upI_a (by decide), upI_a (by decide)⟩) (fun P' hP => ⟨upI_k hP, upI_a (by decide), upI_a (by decide), upI_a (by decide), upI_a (by decide)⟩) (fun k _ => upI_a (by decide)) ?_ ?_ ?_
  · obtain ⟨w, q, a1, a2, a3, a4, a5, a6, a7, a8, a9⟩ := h0.1 p hp
    exact ⟨v, q, hv4, a2, upI_s _ _ _ _, upI_s _ _ _ _, by rw [upI_k (by decide)]; exact a5, by rw [upI_a (by decide)]; exact a6, fun r hr => by rw [upI_k (by decide), upI_a (by decide)]; exact a7 r hr, by rw [upI_k (by decide)]; exact a8, fun z => absurd z hv⟩
  · intro k hk; rw [upI_a (by omega), upI_a (by decide)]; exact h0.2.1 k hk
  · intro hb
    have hx := h0.2.2.2.2.2 hb p hp
    unfold XRel
    simp only [upI_k (show (3 : Nat) ≠ 0 by decide), upI_k (show (4 : Nat) ≠ 0 by decide), upI_k (show (5 : Nat) ≠ 0 by decide), upI_a (show (71 : Nat) ≠ 68 by decide), upI_a (show (72 : Nat) ≠ 68 by decide), upI_a (show (73 : Nat) ≠ 68 by decide)]
    exact hx
theorem sim_move {I K : pI} {h b o c p : Nat} (h0 : HRel I K h b o c) (hB : HB h b o) (hp : p < 3) (hc : c ≤ 3) : HRel (mvA I h p c) (moI K (o + p) b c) h b o c := by
  have hh := hB.h
  obtain ⟨w, q, a1, a2, a3, a4, -⟩ := h0.1 p hp
  have hnum : (if b = 0 then nI (o + p) else nI (o + p) - 3) = nI p := by
    rcases hB with ⟨-, e, e'⟩ | ⟨-, e, e'⟩
    · rw [if_pos e, e', Nat.zero_add]
    · rw [if_neg (by omega), e', show (3 : Int32) = nI 3 by decide, pk_sub (by omega)]; congr 1; omega
  unfold mvA moI mvB mvR
  rw [a3, a4, hnum]
  rcases (show w = 0 ∨ w = 1 ∨ w = 2 ∨ w = 3 ∨ w = 4 by omega) with rfl | rfl | rfl | rfl | rfl
  · rw [if_neg (by decide), if_pos (by decide), if_neg (by decide), if_pos (by decide)]
    have e1 : atI K (o + p) (nI p) 68 (o + p) = 1 := by unfold atI; rw [upI_a (by decide), upI_a (by decide), upI_a (by decide), upI_a (by decide), upI_a (by decide), upI_s]
    unfold mvS
    rw [e1, if_neg (by decide)]
    exact sim_adv hB hp hc (sim_begin h0 hB hp hc) (Or.inl begI_own.1)
  · rw [if_neg (by decide), if_neg (by decide), if_neg (by decide), if_neg (by decide), if_neg (by decide)]
    unfold mvS
    rw [a4, if_neg (by decide)]
    exact sim_adv hB hp hc h0 (Or.inl a3)
  · rw [if_neg (by decide), if_neg (by decide), if_pos (by decide), if_neg (by decide), if_neg (by decide)]
    unfold mvS
    rw [a4, if_pos (by decide)]
    exact sim_adv hB hp hc (sim_what (v := 3) h0 hB hp (by decide) (by decide)) (Or.inr (upI_s _ _ _ _))
  · rw [if_neg (by decide), if_neg (by decide), if_neg (by decide), if_neg (by decide), if_neg (by decide)]
    unfold mvS
    rw [a4, if_neg (by decide)]
    exact sim_adv hB hp hc h0 (Or.inr a3)
  · rw [if_pos (by decide), if_pos (by decide)]
    exact h0
