/-! HALLS ALIKE: (h, b, o) is (43, 0, 0), the museum's, or (50, 8, 3), the judge's -/
def HB (h b o : Nat) : Prop := (h = 43 ∧ b = 0 ∧ o = 0) ∨ (h = 50 ∧ b = 8 ∧ o = 3)
def HRel (I K : pI) (h b o c : Nat) : Prop := (∀ j, j < 3 → PRel I K (h + 2 + j) (o + j)) ∧ WRel I K h b ∧ GRel I K ∧ I h 1 = nI c ∧ K 64 2 = nI c ∧ (b = 0 → ∀ j, j < 3 → XRel I K (h + 2 + j) (o + j))
theorem HRel.step {I K I' K' : pI} {h b o c p : Nat} (h0 : HRel I K h b o c) (hB : HB h b o) (hp : p < 3) (hI : ∀ x k, x ≠ h + 2 + p → (x ≠ h ∨ k ≠ 2) → I' x k = I x k) (hK : ∀ k, K' 64 k = K 64 k ∧ K' 65 k = K 65 k)
    (hKp : ∀ P', P' ≠ o + p → K' 68 P' = K 68 P' ∧ K' 69 P' = K 69 P' ∧ K' 71 P' = K 71 P' ∧ K' 72 P' = K 72 P' ∧ K' 73 P' = K 73 P') (h70 : ∀ k, (k < 6 * (o + p) ∨ 6 * (o + p) + 6 ≤ k) → K' 70 k = K 70 k)
    (hown : PRel I' K' (h + 2 + p) (o + p)) (hW : WRel I' K' h b) (hX : b = 0 → XRel I' K' (h + 2 + p) (o + p)) : HRel I' K' h b o c := by
  obtain ⟨r1, r2, r3, r4, r5, r6⟩ := h0
  have hh : h = 43 ∨ h = 50 := by rcases hB with ⟨e, -, -⟩ | ⟨e, -, -⟩ <;> simp [e]
  refine ⟨fun j hj => ?_, hW, r3.congr (fun i k hi => hI _ _ (by omega) (Or.inl (by omega))) (fun k => (hK k).2), by rw [hI h 1 (by omega) (Or.inr (by decide))]; exact r4, by rw [(hK 2).1]; exact r5, fun hb j hj => ?_⟩
  · by_cases e : j = p
    · subst e; exact hown
    · exact (r1 j hj).congr (hI _ _ (by omega) (Or.inl (by omega))) (hI _ _ (by omega) (Or.inl (by omega))) (hI _ _ (by omega) (Or.inl (by omega))) (hKp _ (by omega)).1 (hKp _ (by omega)).2.1 (fun r hr => h70 _ (by omega))
  · by_cases e : j = p
    · subst e; exact hX hb
    · have hx := r6 hb j hj
      obtain ⟨-, -, k1, k2, k3⟩ := hKp (o + j) (by omega)
      unfold XRel
      rw [hI _ _ (by omega) (Or.inl (by omega)), hI _ _ (by omega) (Or.inl (by omega)), hI _ _ (by omega) (Or.inl (by omega)), k1, k2, k3]
      exact hx
theorem frI_P {K : pI} {P P' q x : Nat} (hx : x ≠ 70) (h : P' ≠ P) : frI K P q x P' = K x P' := by
  unfold frI; repeat' split
  all_goals simp [upI_k h, upI_a hx]
theorem frI_70 {K : pI} {P q k : Nat} (hm : mbP (K 65 (4 * q)) (K 65 (4 * q + 1)) (K 65 (4 * q + 2)) (K 65 (4 * q + 3))) (h : k < 6 * P ∨ 6 * P + 6 ≤ k) : frI K P q 70 k = K 70 k := by
  have hs : ∀ x : Int32, isR x → k ≠ 6 * P + x.toNatClampNeg := fun x hx => by
    obtain ⟨s, hs, e⟩ := of_R hx
    rw [e, nI_clamp (by omega)]; omega
  unfold frI
  split
  · rename_i e
    rw [e] at hm
    simp (decide := true) only [mbP, if_true, if_false] at hm
    rw [upI_a (by decide), upI_k (hs _ hm.1)]
  split
  · rename_i e
    rw [e] at hm
    simp (decide := true) only [mbP, if_true, if_false] at hm
    rw [upI_a (by decide), upI_k (hs _ hm.1)]
  split
  · rename_i e
    rw [e] at hm
    simp (decide := true) only [mbP, if_true, if_false] at hm
    rw [upI_a (by decide), upI_k (hs _ hm.1)]
  repeat' split
  all_goals simp [upI_a (show (70 : Nat) ≠ 69 by decide), upI_a (show (70 : Nat) ≠ 71 by decide), upI_a (show (70 : Nat) ≠ 72 by decide)]
theorem dF_k {I : pI} {a now k : Nat} (h1 : k ≠ 1) (h2 : k ≠ 2) (h3 : k ≠ 3) (h4 : k ≠ 4) : dF I a now a k = I a k := by
  unfold dF; repeat' split
  all_goals simp [upI_k h1, upI_k h2, upI_k h3, upI_k h4]
theorem dSm_o {I : pI} {h it now a k : Nat} (h1 : a ≠ it) (h2 : a ≠ h ∨ k ≠ 2) : dSm I h it now a k = I a k := by
  unfold dSm; repeat' split
  all_goals (rcases h2 with h2 | h2 <;> simp [upI_a h1, upI_a h2, upI_k h2])
theorem dS_o {I : pI} {h it now a k : Nat} (h1 : a ≠ it) (h2 : a ≠ h ∨ k ≠ 2) : dS I h it now a k = I a k := by
  unfold dS; rw [upI_a h1, dSm_o h1 h2]
theorem dS_k {I : pI} {h it now k : Nat} (hh : it ≠ h) (h1 : k ≠ 1) (h2 : k ≠ 2) : dS I h it now it k = I it k := by
  unfold dS dSm; repeat' split
  all_goals simp [upI_k h1, upI_k h2]
theorem srM_o {K : pI} {P q b x k : Nat} (h1 : x ≠ 67) (h2 : x ≠ 70) : srM K P q b x k = K x k := by
  unfold srM; repeat' split
  all_goals simp [upI_a h1, upI_a h2]
theorem srI_o {K : pI} {P q b x k : Nat} (h1 : x ≠ 67) (h2 : x ≠ 70) (h3 : x ≠ 69 ∨ k ≠ P) : srI K P q b x k = K x k := by
  unfold srI
  rcases h3 with h3 | h3
  · rw [upI_a h3, srM_o h1 h2]
  · rw [upI_k h3, srM_o h1 h2]
theorem srI_70 {K : pI} {P q b k : Nat} (hA : isR (K 65 (4 * q + 1))) (h : k < 6 * P ∨ 6 * P + 6 ≤ k) : srI K P q b 70 k = K 70 k := by
  obtain ⟨s, hs, e⟩ := of_R hA
  have hk : k ≠ 6 * P + (K 65 (4 * q + 1)).toNatClampNeg := by rw [e, nI_clamp (by omega)]; omega
  unfold srI srM
  rw [upI_a (by decide)]
  repeat' split
  all_goals simp [upI_k hk, upI_a (show (70 : Nat) ≠ 67 by decide)]
theorem rgZ_out {P k : Nat} (h : k < 6 * P ∨ 6 * P + 6 ≤ k) : ∀ (m r : Nat) (K : pI), r + m = 6 → rgZ P m r K 70 k = K 70 k := by
  intro m
  induction m with
  | zero => intro r K _; rfl
  | succ m ih => intro r K hr; rw [rgZ, ih (r + 1) _ (by omega), upI_k (by omega)]
theorem rgZ_zero {P : Nat} : ∀ (m r : Nat) (K : pI) (k : Nat), (K 70 k = 0 ∨ (6 * P + r ≤ k ∧ k < 6 * P + r + m)) → rgZ P m r K 70 k = 0 := by
  intro m
  induction m with
  | zero => intro r K k h; rcases h with h | h
            · exact h
            · omega
  | succ m ih =>
    intro r K k h
    rw [rgZ]
    apply ih
    by_cases e : k = 6 * P + r
    · exact Or.inl (by rw [e, upI_s])
    · rcases h with h | h
      · exact Or.inl (by rw [upI_k e]; exact h)
      · exact Or.inr (by omega)
theorem reI_P {K : pI} {P P' x : Nat} (hx : x ≠ 70) (h : P' ≠ P) : reI K P x P' = K x P' := by
  unfold reI; rw [rgZ_o hx, upI_k h, upI_k h]
theorem reI_70 {K : pI} {P k : Nat} (h : k < 6 * P ∨ 6 * P + 6 ≤ k) : reI K P 70 k = K 70 k := by
  unfold reI; rw [rgZ_out h 6 0 _ rfl, upI_a (by decide), upI_a (by decide)]
theorem reI_z {K : pI} {P r : Nat} (h : r < 6) : reI K P 70 (6 * P + r) = 0 := by
  unfold reI; exact rgZ_zero 6 0 _ _ (Or.inr ⟨by omega, by omega⟩)
/-- lost, on both sides -/
theorem sim_lost {I K : pI} {h b o c p : Nat} (h0 : HRel I K h b o c) (hB : HB h b o) (hp : p < 3) (hw : ∃ w, w ≠ 0 ∧ I (h + 2 + p) 0 = nI w ∧ w ≤ 4) : HRel (upI I (h + 2 + p) 0 4) (upI K 68 (o + p) 4) h b o c := by
  have hh : h = 43 ∨ h = 50 := by rcases hB with ⟨e, -, -⟩ | ⟨e, -, -⟩ <;> simp [e]
  refine h0.step hB hp (fun x k h1 _ => upI_a h1) (fun k => ⟨upI_a (by decide), upI_a (by decide)⟩) (fun P' hP => ⟨upI_k hP, upI_a (by decide), upI_a (by decide), upI_a (by decide), upI_a (by decide)⟩) (fun k _ => upI_a (by decide)) ?_ ?_ ?_
  · obtain ⟨w, q, a1, a2, a3, a4, a5, a6, a7, a8, a9⟩ := h0.1 p hp
    refine ⟨4, q, by decide, a2, upI_s _ _ _ _, upI_s _ _ _ _, by rw [upI_k (by decide)]; exact a5, by rw [upI_a (by decide)]; exact a6, fun r hr => by rw [upI_k (by decide), upI_a (by decide)]; exact a7 r hr, by rw [upI_k (by decide)]; exact a8, fun z => by omega⟩
  · intro k hk; rw [upI_a (by omega), upI_a (by decide)]; exact h0.2.1 k hk
  · intro hb
    have hx := h0.2.2.2.2.2 hb p hp
    unfold XRel
    simp only [upI_k (show (3 : Nat) ≠ 0 by decide), upI_k (show (4 : Nat) ≠ 0 by decide), upI_k (show (5 : Nat) ≠ 0 by decide), upI_a (show (71 : Nat) ≠ 68 by decide), upI_a (show (72 : Nat) ≠ 68 by decide), upI_a (show (73 : Nat) ≠ 68 by decide)]
    exact hx
/-- done, on both sides -/
theorem sim_done {I K : pI} {h b o c p : Nat} (h0 : HRel I K h b o c) (hB : HB h b o) (hp : p < 3) : HRel (endI I (h + 2 + p)) (upI (reI K (o + p)) 71 (o + p) 0) h b o c := by
  have hh : h = 43 ∨ h = 50 := by rcases hB with ⟨e, -, -⟩ | ⟨e, -, -⟩ <;> simp [e]
  have e70 : ∀ k, upI (reI K (o + p)) 71 (o + p) 0 70 k = reI K (o + p) 70 k := fun k => upI_a (by decide)
  refine h0.step hB hp (fun x k h1 _ => by unfold endI; rw [upI_a h1, upI_a h1, upI_a h1, upI_a h1]) (fun k => ⟨by rw [upI_a (by decide), reI_o (by decide) (by decide) (by decide)], by rw [upI_a (by decide), reI_o (by decide) (by decide) (by decide)]⟩) (fun P' hP => ⟨by rw [upI_a (by decide), reI_P (by decide) hP], by rw [upI_a (by decide), reI_P (by decide) hP], by rw [upI_k hP, reI_P (by decide) hP], by rw [upI_a (by decide), reI_P (by decide) hP], by rw [upI_a (by decide), reI_P (by decide) hP]⟩) (fun k hk => by rw [e70, reI_70 hk]) ?_ ?_ ?_
  · refine ⟨0, 0, by decide, by decide, ?_, ?_, ?_, ?_, fun r hr => ?_, ⟨?_, ?_⟩, fun _ => ⟨rfl, ?_⟩⟩
    · simp [endI, upI, nI]
    · rw [upI_a (by decide)]; unfold reI; rw [rgZ_o (by decide), upI_a (by decide), upI_s]; rfl
    · simp [endI, upI, nI]
    · rw [upI_a (by decide)]; unfold reI; rw [rgZ_o (by decide), upI_s]; rfl
    · rw [e70, reI_z hr, show endI I (h + 2 + p) (h + 2 + p) 2 = 0 by simp [endI, upI]]; exact nib_0 (by omega)
    · rw [show endI I (h + 2 + p) (h + 2 + p) 2 = 0 by simp [endI, upI]]; exact nib_0 (by decide)
    · rw [show endI I (h + 2 + p) (h + 2 + p) 2 = 0 by simp [endI, upI]]; exact nib_0 (by decide)
    · simp [endI, upI]
  · intro k hk
    rw [upI_a (by decide), reI_o (by decide) (by decide) (by decide)]
    unfold endI
    rw [upI_a (by omega), upI_a (by omega), upI_a (by omega), upI_a (by omega)]
    exact h0.2.1 k hk
  · intro hb
    have hx := h0.2.2.2.2.2 hb p hp
    refine ⟨by simp [endI, upI], by simp [endI, upI], ?_, ?_⟩
    · rw [upI_a (by decide), reI_o (by decide) (by decide) (by decide)]; unfold endI; rw [upI_k (by decide), upI_k (by decide), upI_k (by decide), upI_k (by decide)]; exact hx.2.2.1
    · rw [upI_a (by decide), reI_o (by decide) (by decide) (by decide)]; unfold endI; rw [upI_k (by decide), upI_k (by decide), upI_k (by decide), upI_k (by decide)]; exact hx.2.2.2
