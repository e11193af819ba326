/-! PROGRAMS ALIKE: what an exhibit's method is, on both sides -/
def c4 (q : Int32 × Int32 × Int32 × Int32) (j : Nat) : Int32 := if j = 0 then q.1 else if j = 1 then q.2.1 else if j = 2 then q.2.2.1 else q.2.2.2
theorem isI_66 {I : pI} {t k : Nat} {x : Int32 × Int32 × Int32 × Int32} : isI I t x 66 k = if 4 * t ≤ k ∧ k < 4 * t + 4 then c4 x (k % 4) else I 66 k := by
  unfold isI
  rw [upI_a (by decide)]
  by_cases h : 4 * t ≤ k ∧ k < 4 * t + 4
  · rw [if_pos h]
    rcases (show k = 4 * t ∨ k = 4 * t + 1 ∨ k = 4 * t + 2 ∨ k = 4 * t + 3 by omega) with rfl | rfl | rfl | rfl
    · rw [upI_k (by omega), upI_k (by omega), upI_k (by omega), upI_s, show 4 * t % 4 = 0 by omega]; rfl
    · rw [upI_k (by omega), upI_k (by omega), upI_s, show (4 * t + 1) % 4 = 1 by omega]; rfl
    · rw [upI_k (by omega), upI_s, show (4 * t + 2) % 4 = 2 by omega]; rfl
    · rw [upI_s, show (4 * t + 3) % 4 = 3 by omega]; rfl
  · rw [if_neg h, upI_k (by omega), upI_k (by omega), upI_k (by omega), upI_k (by omega)]
theorem isI_o {I : pI} {t a k : Nat} {x : Int32 × Int32 × Int32 × Int32} (h : a ≠ 66) (h2 : a ≠ 64 ∨ k ≠ 23) : isI I t x a k = I a k := by
  unfold isI
  rw [h2.elim (fun z => upI_a z) (fun z => upI_k z), upI_a h, upI_a h, upI_a h, upI_a h]
theorem isL_o {a k : Nat} (h : a ≠ 66) (h2 : a ≠ 64 ∨ k ≠ 23) : ∀ (xs : List (Int32 × Int32 × Int32 × Int32)) (t : Nat) (I : pI), isL xs t I a k = I a k := by
  intro xs
  induction xs with
  | nil => intro t I; rfl
  | cons x xs ih => intro t I; rw [isL, ih, isI_o h h2]
theorem pdL_o {a k : Nat} (h : a ≠ 66) (h2 : a ≠ 64 ∨ k ≠ 23) : ∀ (m t : Nat) (I : pI), pdL m t I a k = I a k := by
  intro m
  induction m with
  | zero => intro t I; rfl
  | succ m ih => intro t I; rw [pdL, ih, isI_o h h2]
theorem isL_66 {k : Nat} : ∀ (xs : List (Int32 × Int32 × Int32 × Int32)) (t : Nat) (I : pI), isL xs t I 66 k = if 4 * t ≤ k ∧ k < 4 * (t + xs.length) then c4 (xs.getD (k / 4 - t) (13, 0, 0, 0)) (k % 4) else I 66 k := by
  intro xs
  induction xs with
  | nil => intro t I; rw [isL, if_neg (by simp only [List.length_nil]; omega)]
  | cons x xs ih =>
    intro t I
    rw [isL, ih, isI_66, List.length_cons]
    by_cases h : 4 * t ≤ k ∧ k < 4 * t + 4
    · rw [if_neg (by omega), if_pos h, if_pos (by omega), show k / 4 - t = 0 by omega]; rfl
    · by_cases h2 : 4 * (t + 1) ≤ k ∧ k < 4 * (t + 1 + xs.length)
      · rw [if_pos h2, if_pos (by omega), show k / 4 - t = (k / 4 - (t + 1)) + 1 by omega]; rfl
      · rw [if_neg h2, if_neg h, if_neg (by omega)]
theorem pdL_66 {k : Nat} : ∀ (m t : Nat) (I : pI), pdL m t I 66 k = if 4 * t ≤ k ∧ k < 4 * (t + m) then c4 (13, 0, 0, 0) (k % 4) else I 66 k := by
  intro m
  induction m with
  | zero => intro t I; rw [pdL, if_neg (by omega)]
  | succ m ih =>
    intro t I
    rw [pdL, ih, isI_66]
    by_cases h : 4 * t ≤ k ∧ k < 4 * t + 4
    · rw [if_neg (by omega), if_pos h, if_pos (by omega)]
    · by_cases h2 : 4 * (t + 1) ≤ k ∧ k < 4 * (t + 1 + m)
      · rw [if_pos h2, if_pos (by omega)]
      · rw [if_neg h2, if_neg h, if_neg (by omega)]
theorem flI_66 {I : pI} {x : Int32} {k : Nat} (hk : k < 160) : flI I x 66 k = c4 ((xsOf x).getD (k / 4) (13, 0, 0, 0)) (k % 4) := by
  have hl := xsOf_len x
  unfold flI
  rw [pdL_66, isL_66]
  by_cases h : k < 4 * (xsOf x).length
  · rw [if_neg (by omega), if_pos (by omega), Nat.sub_zero]
  · have e : (xsOf x).getD (k / 4) (13, 0, 0, 0) = (13, 0, 0, 0) := by rw [List.getD_eq_getElem?_getD, List.getElem?_eq_none (by omega)]; rfl
    rw [if_pos (by omega), e]
theorem flI_o {I : pI} {x : Int32} {a k : Nat} (h : a ≠ 66) (h2 : a ≠ 64 ∨ k ≠ 23) : flI I x a k = I a k := by
  unfold flI
  rw [pdL_o h h2, isL_o h h2, h2.elim (fun z => upI_a z) (fun z => upI_k z)]
theorem cpL_o {a k : Nat} (h : a ≠ 65) : ∀ (m j : Nat) (I : pI), cpL m j I a k = I a k := by
  intro m
  induction m with
  | zero => intro j I; rfl
  | succ m ih => intro j I; rw [cpL, ih, upI_a h]
theorem cpL_65 {k : Nat} : ∀ (m j : Nat) (I : pI), cpL m j I 65 k = if j ≤ k ∧ k < j + m then I 66 k else I 65 k := by
  intro m
  induction m with
  | zero => intro j I; rw [cpL, if_neg (by omega)]
  | succ m ih =>
    intro j I
    rw [cpL, ih, upI_a (by decide)]
    by_cases h : k = j
    · subst h; rw [if_neg (by omega), upI_s, if_pos (by omega)]
    · by_cases h2 : j + 1 ≤ k ∧ k < j + 1 + m
      · rw [if_pos h2, if_pos (by omega)]
      · rw [if_neg h2, upI_k h, if_neg (by omega)]
theorem fill_65 {I : pI} {x : Int32} {i j : Nat} (hi : i < 40) (hj : j < 4) : cpL 160 0 (flI I x) 65 (4 * i + j) = c4 ((xsOf x).getD i (13, 0, 0, 0)) j := by
  rw [cpL_65, if_pos (by omega), flI_66 (by omega), show (4 * i + j) / 4 = i by omega, show (4 * i + j) % 4 = j by omega]
/-- the class's own table -/
def lc (xs : List Int32) (i j : Nat) : Int32 := if 4 * i + 3 < xs.length then xs.getD (4 * i + j) 0 else c4 (13, 0, 0, 0) j
theorem bcI_o {I : pI} {a x k : Nat} {p q r s : Int32} (h : x ≠ a ∨ 4 ≤ k) : bcI I a p q r s x k = I x k := by
  unfold bcI
  rcases h with h | h
  · rw [upI_a h, upI_a h, upI_a h, upI_a h]
  · rw [upI_k (by omega), upI_k (by omega), upI_k (by omega), upI_k (by omega)]
theorem bcI_s {I : pI} {a j : Nat} {p q r s : Int32} (h : j < 4) : bcI I a p q r s a j = c4 (p, q, r, s) j := by
  unfold bcI c4
  rcases (show j = 0 ∨ j = 1 ∨ j = 2 ∨ j = 3 by omega) with rfl | rfl | rfl | rfl <;> simp [upI]
theorem ldB_s {xs : List Int32} {I : pI} {i j : Nat} (h : j < 4) : ldB xs I i (3 + i) j = lc xs i j := by
  unfold ldB lc
  split
  · rw [bcI_s h]; unfold c4
    rcases (show j = 0 ∨ j = 1 ∨ j = 2 ∨ j = 3 by omega) with rfl | rfl | rfl | rfl <;> simp
  · rw [bcI_s h]
theorem ldB_o {xs : List Int32} {I : pI} {i a k : Nat} (h : a ≠ 3 + i ∨ 4 ≤ k) : ldB xs I i a k = I a k := by
  unfold ldB
  split <;> exact bcI_o h
theorem ldL_o {xs : List Int32} {a k : Nat} : ∀ (m i : Nat) (I : pI), (a < 3 + i ∨ 3 + i + m ≤ a ∨ 4 ≤ k) → ldL xs m i I a k = I a k := by
  intro m
  induction m with
  | zero => intro i I _; rfl
  | succ m ih => intro i I h; rw [ldL, ih _ _ (by omega), ldB_o (by omega)]
theorem ldL_s {xs : List Int32} {j k : Nat} (hk : k < 4) : ∀ (m i : Nat) (I : pI), i ≤ j → j < i + m → ldL xs m i I (3 + j) k = lc xs j k := by
  intro m
  induction m with
  | zero => intro i I h1 h2; omega
  | succ m ih =>
    intro i I h1 h2
    rw [ldL]
    by_cases e : i = j
    · subst e; rw [ldL_o _ _ _ (by omega), ldB_s hk]
    · exact ih _ _ (by omega) (by omega)
set_option maxRecDepth 100000 in
theorem lc_eq {m : Nat} (h1 : 1 ≤ m) (h5 : m ≤ 5) : ∀ i, i < 40 → ∀ j, j < 4 → lc (insXs (nI m)) i j = c4 ((xsOf (nI m)).getD i (13, 0, 0, 0)) j := by
  rcases (show m = 1 ∨ m = 2 ∨ m = 3 ∨ m = 4 ∨ m = 5 by omega) with rfl | rfl | rfl | rfl | rfl <;> decide +kernel
def mbB (k a b d : Int32) : Bool :=
  if k = 0 ∨ k = 1 then decide (isR a ∧ (0 ≤ b ∧ b ≤ 15))
  else if k = 2 then decide (isR a ∧ isR b)
  else if k = 3 ∨ k = 4 then decide (isR a ∧ isR b ∧ isPl d)
  else if k = 5 then decide (isPl d)
  else if k = 7 ∨ k = 8 ∨ k = 9 then decide (isR a ∧ (0 ≤ b ∧ b ≤ 7) ∧ (0 ≤ d ∧ d ≤ 6))
  else if k = 10 then decide (isR a ∧ (0 ≤ b ∧ b ≤ 7) ∧ (0 ≤ d ∧ d ≤ 15))
  else if k = 11 then decide (isR a ∧ (0 ≤ b ∧ b ≤ 7) ∧ isR d)
  else decide (k = 6 ∨ k = 12 ∨ k = 13)
theorem mbB_P {k a b d : Int32} (h : mbB k a b d = true) : mbP k a b d := by
  unfold mbB at h
  unfold mbP
  split at h
  · rename_i c; rw [if_pos c]; exact of_decide_eq_true h
  rename_i c0
  rw [if_neg c0]
  split at h
  · rename_i c; rw [if_pos c]; exact of_decide_eq_true h
  rename_i c1
  rw [if_neg c1]
  split at h
  · rename_i c; rw [if_pos c]; exact of_decide_eq_true h
  rename_i c2
  rw [if_neg c2]
  split at h
  · rename_i c; rw [if_pos c]; exact of_decide_eq_true h
  rename_i c3
  rw [if_neg c3]
  split at h
  · rename_i c; rw [if_pos c]; exact of_decide_eq_true h
  rename_i c4
  rw [if_neg c4]
  split at h
  · rename_i c; rw [if_pos c]; exact of_decide_eq_true h
  rename_i c5
  rw [if_neg c5]
  split at h
  · rename_i c; rw [if_pos c]; exact of_decide_eq_true h
  rename_i c6
  rw [if_neg c6]
  exact of_decide_eq_true h
set_option maxRecDepth 100000 in
theorem xs_mb {m : Nat} (h1 : 1 ≤ m) (h5 : m ≤ 5) : ∀ i, i < 40 → mbB (c4 ((xsOf (nI m)).getD i (13, 0, 0, 0)) 0) (c4 ((xsOf (nI m)).getD i (13, 0, 0, 0)) 1) (c4 ((xsOf (nI m)).getD i (13, 0, 0, 0)) 2) (c4 ((xsOf (nI m)).getD i (13, 0, 0, 0)) 3) = true := by
  rcases (show m = 1 ∨ m = 2 ∨ m = 3 ∨ m = 4 ∨ m = 5 by omega) with rfl | rfl | rfl | rfl | rfl <;> decide +kernel
/-- the exhibit's program, laid on both sides -/
theorem G_fill {I K I' K' : pI} {m : Nat} (h1 : 1 ≤ m) (h5 : m ≤ 5) (hI : ∀ i j, i < 40 → j < 4 → I' (3 + i) j = ldL (insXs (nI m)) 40 0 I (3 + i) j) (hK : ∀ k, k < 160 → K' 65 k = cpL 160 0 (flI K (nI m)) 65 k) : GRel I' K' := by
  intro i hi
  have e : ∀ j, j < 4 → I' (3 + i) j = c4 ((xsOf (nI m)).getD i (13, 0, 0, 0)) j ∧ K' 65 (4 * i + j) = c4 ((xsOf (nI m)).getD i (13, 0, 0, 0)) j := fun j hj =>
    ⟨by rw [hI i j hi hj, ldL_s hj _ _ _ (by omega) (by omega), lc_eq h1 h5 i hi j hj], by rw [hK _ (by omega), fill_65 hi hj]⟩
  obtain ⟨a0, b0⟩ := e 0 (by decide)
  obtain ⟨a1, b1⟩ := e 1 (by decide)
  obtain ⟨a2, b2⟩ := e 2 (by decide)
  obtain ⟨a3, b3⟩ := e 3 (by decide)
  rw [Nat.add_zero] at b0
  refine ⟨⟨a0.trans b0.symm, a1.trans b1.symm, a2.trans b2.symm, a3.trans b3.symm⟩, ?_⟩
  rw [b0, b1, b2, b3]
  exact mbB_P (xs_mb h1 h5 i hi)
