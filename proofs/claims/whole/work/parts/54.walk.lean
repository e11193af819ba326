/-! entering, and the whole walk, on both sides -/
theorem enB_k {I : pI} {a x k : Nat} (h : k ≠ 4) : enB I a x k = I x k := by
  unfold enB; split
  · exact upI_k h
  · rfl
theorem enL_k {h x k : Nat} (hk : k ≠ 4) : ∀ (m i : Nat) (I : pI), enL h m i I x k = I x k := by
  intro m
  induction m with
  | zero => intro i I; rfl
  | succ m ih => intro i I; rw [enL, ih, enB_k hk]
theorem enL_x {h x k : Nat} : ∀ (m i : Nat) (I : pI), (x < h + 2 + i ∨ h + 2 + i + m ≤ x) → enL h m i I x k = I x k := by
  intro m
  induction m with
  | zero => intro i I _; rfl
  | succ m ih => intro i I hx; rw [enL, ih (i + 1) _ (by omega), enB_o (by omega)]
theorem enL_4 {h j : Nat} : ∀ (m i : Nat) (I : pI), i ≤ j → j < i + m → enL h m i I (h + 2 + j) 4 = if I (h + 2 + j) 0 = 1 ∧ I (h + 2 + j) 3 ≠ 0 then I (h + 2 + j) 4 + 1 else I (h + 2 + j) 4 := by
  intro m
  induction m with
  | zero => intro i I h1 h2; omega
  | succ m ih =>
    intro i I h1 h2
    rw [enL]
    by_cases e : j = i
    · subst e
      rw [enL_x m (j + 1) _ (by omega)]
      unfold enB
      split
      · exact upI_s _ _ _ _
      · rfl
    · rw [ih (i + 1) _ (by omega) (by omega), enB_o (by omega), enB_o (by omega), enB_o (by omega)]
theorem erL_o {P x k : Nat} (h : x ≠ 72) : ∀ (m i : Nat) (K : pI), erL P m i K x k = K x k := by
  intro m
  induction m with
  | zero => intro i K; rfl
  | succ m ih => intro i K; rw [erL, ih, erB, upI_a h]
theorem erL_x {P k : Nat} : ∀ (m i : Nat) (K : pI), (k < i ∨ i + m ≤ k) → erL P m i K 72 k = K 72 k := by
  intro m
  induction m with
  | zero => intro i K _; rfl
  | succ m ih => intro i K hx; rw [erL, ih (i + 1) _ (by omega), erB, upI_k (by omega)]
theorem erL_4 {P j : Nat} : ∀ (m i : Nat) (K : pI), i ≤ j → j < i + m → erL P m i K 72 j = if j ≠ P ∧ K 68 j = 1 ∧ K 71 j ≠ 0 then K 72 j + 1 else K 72 j := by
  intro m
  induction m with
  | zero => intro i K h1 h2; omega
  | succ m ih =>
    intro i K h1 h2
    rw [erL]
    by_cases e : j = i
    · subst e
      rw [erL_x m (j + 1) _ (by omega), erB, upI_s]
    · rw [ih (i + 1) _ (by omega) (by omega)]
      unfold erB
      rw [upI_a (by decide), upI_a (by decide), upI_k e]
theorem sim_enter {I K : pI} {h b o c p : Nat} (h0 : HRel I K h b o c) (hB : HB h b o) (hp : p < 3) (hc : c ≤ 3) (hq : ∃ q, q < 40 ∧ I (h + 2 + p) 1 = nI q) : HRel (enL h c 0 (enA I (h + 2 + p))) (erW K (o + p) b c) h b o c := by
  have hh : h = 43 ∨ h = 50 := by rcases hB with ⟨e, -, -⟩ | ⟨e, -, -⟩ <;> simp [e]
  obtain ⟨r1, r2, r3, r4, r5, r6⟩ := id h0
  have iA : ∀ x k, x ≠ h + 2 + p → enA I (h + 2 + p) x k = I x k := fun x k hx => by unfold enA; rw [upI_a hx, upI_a hx, upI_a hx]
  have iE : ∀ x k, k ≠ 4 ∨ x < h + 2 ∨ h + 5 ≤ x → enL h c 0 (enA I (h + 2 + p)) x k = enA I (h + 2 + p) x k := fun x k hx => by
    rcases hx with hx | hx
    · exact enL_k hx c 0 _
    · exact enL_x c 0 _ (by omega)
  have kE : ∀ x k, x ≠ 72 → erW K (o + p) b c x k = erA K (o + p) x k := fun x k hx => by
    unfold erW; split
    · exact erL_o hx c 0 _
    · rfl
  have kA : ∀ x k, (x ≠ 68 ∧ x ≠ 69 ∧ x ≠ 71) ∨ k ≠ o + p → erA K (o + p) x k = K x k := fun x k hx => by
    unfold erA
    rcases hx with ⟨h1, h2, h3⟩ | hx
    · rw [upI_a h3, upI_a h2, upI_a h1]
    · rw [upI_k hx, upI_k hx, upI_k hx]
  refine ⟨fun j hj => ?_, fun k hk => ?_, r3.congr (fun i k hi => ?_) (fun k => ?_), ?_, ?_, fun hb j hj => ?_⟩
  · by_cases e : j = p
    · subst e
      obtain ⟨w, q, a1, a2, a3, a4, a5, a6, a7, a8, a9⟩ := r1 j hj
      obtain ⟨q', hq', eq'⟩ := hq
      have eqq : q = q' := (nI_eq (by omega) (by omega)).mp (a5.symm.trans eq')
      subst eqq
      refine ⟨2, q + 1, by decide, by omega, ?_, ?_, ?_, ?_, fun r hr => ?_, ?_, fun z => by omega⟩
      · rw [iE _ _ (Or.inl (by decide))]; simp [enA, upI, nI]
      · rw [kE _ _ (by decide)]; simp [erA, upI, nI]
      · rw [iE _ _ (Or.inl (by decide))]; unfold enA; rw [upI_k (by decide), upI_s, a5, nI_1]
      · rw [kE _ _ (by decide)]; unfold erA; rw [upI_a (by decide), upI_s, a6, nI_1]
      · rw [iE _ _ (Or.inl (by decide)), kE _ _ (by decide), kA _ _ (Or.inl ⟨by decide, by decide, by decide⟩)]; unfold enA; rw [upI_k (by decide), upI_k (by decide), upI_k (by decide)]; exact a7 r hr
      · rw [iE _ _ (Or.inl (by decide))]; unfold enA; rw [upI_k (by decide), upI_k (by decide), upI_k (by decide)]; exact a8
    · refine (r1 j hj).congr ?_ ?_ ?_ ?_ ?_ (fun r hr => ?_)
      · rw [iE _ _ (Or.inl (by decide)), iA _ _ (by omega)]
      · rw [iE _ _ (Or.inl (by decide)), iA _ _ (by omega)]
      · rw [iE _ _ (Or.inl (by decide)), iA _ _ (by omega)]
      · rw [kE _ _ (by decide), kA _ _ (Or.inr (by omega))]
      · rw [kE _ _ (by decide), kA _ _ (Or.inr (by omega))]
      · rw [kE _ _ (by decide), kA _ _ (Or.inl ⟨by decide, by decide, by decide⟩)]
  · rw [iE _ _ (Or.inl (by decide)), iA _ _ (by omega), kE _ _ (by decide), kA _ _ (Or.inl ⟨by decide, by decide, by decide⟩)]; exact r2 k hk
  · rw [iE _ _ (Or.inr (by omega)), iA _ _ (by omega)]
  · rw [kE _ _ (by decide), kA _ _ (Or.inl ⟨by decide, by decide, by decide⟩)]
  · rw [iE _ _ (Or.inl (by decide)), iA _ _ (by omega)]; exact r4
  · rw [kE _ _ (by decide), kA _ _ (Or.inl ⟨by decide, by decide, by decide⟩)]; exact r5
  · have ho : o = 0 := by rcases hB with ⟨-, -, e⟩ | ⟨-, e, -⟩
                          · exact e
                          · omega
    obtain ⟨x1, x2, x3, x4⟩ := r6 hb j hj
    obtain ⟨w, q, a1, a2, a3, a4, -⟩ := r1 j hj
    have e3 : enL h c 0 (enA I (h + 2 + p)) (h + 2 + j) 3 = if j = p then 0 else I (h + 2 + j) 3 := by
      rw [iE _ _ (Or.inl (by decide))]
      split
      · rename_i e; subst e; simp [enA, upI]
      · rw [iA _ _ (by omega)]
    have k3 : erW K (o + p) b c 71 (o + j) = if j = p then 0 else K 71 (o + j) := by
      rw [kE _ _ (by decide)]
      split
      · rename_i e; subst e; simp [erA, upI]
      · rw [kA _ _ (Or.inr (by omega))]
    refine ⟨by rw [e3, k3, x1], ?_, ?_, ?_⟩
    · rw [e3]; split
      · exact Or.inl rfl
      · exact x2
    · have i4 : enA I (h + 2 + p) (h + 2 + j) 4 = I (h + 2 + j) 4 := by
        by_cases e : j = p
        · subst e; unfold enA; rw [upI_k (by decide), upI_k (by decide), upI_k (by decide)]
        · rw [iA _ _ (by omega)]
      have k4 : erA K (o + p) 72 (o + j) = K 72 (o + j) := kA _ _ (Or.inl ⟨by decide, by decide, by decide⟩)
      unfold erW
      rw [if_pos hb]
      by_cases hjc : j < c
      · rw [enL_4 c 0 _ (by omega) (by omega), erL_4 c 0 _ (by omega) (by omega), i4, k4]
        by_cases e : j = p
        · subst e
          rw [if_neg (fun z => absurd z.1 (by simp [enA, upI])), if_neg (fun z => z.1 rfl)]; exact x3
        · rw [iA _ _ (by omega), iA _ _ (by omega), kA _ _ (Or.inr (by omega)), kA _ _ (Or.inr (by omega)), a3, a4, ← x1, x3]
          by_cases hcond : nI w = 1 ∧ I (h + 2 + j) 3 ≠ 0
          · rw [if_pos hcond, if_pos ⟨by omega, hcond⟩]
          · rw [if_neg hcond, if_neg (fun z => hcond z.2)]
      · rw [enL_x c 0 _ (by omega), erL_x c 0 _ (by omega), i4, k4]; exact x3
    · rw [iE _ _ (Or.inl (by decide)), kE _ _ (by decide), kA _ _ (Or.inl ⟨by decide, by decide, by decide⟩)]
      by_cases e : j = p
      · subst e; unfold enA; rw [upI_k (by decide), upI_k (by decide), upI_k (by decide)]; exact x4
      · rw [iA _ _ (by omega)]; exact x4
