/-! THE JUDGES ALIKE: rows read back on both sides -/
theorem rsS_own {I : pI} {J : pJ} {s p r q w l : Nat} (hp : p < 3) (h : TV r q w l) (hJ : J 57 (3 * s + p) = lN (cN r q w l)) : rsS I J s p (52 + p) 0 = nI w ∧ rsS I J s p (52 + p) 1 = nI q ∧ rsS I J s p (52 + p) 2 = nI r ∧ rsS I J s p 55 p = nI l := by
  have hl := cN_lt h
  obtain ⟨b1, b2, b3, b4, -⟩ := h
  have e2 : us (lN (cN r q w l)) 2 = lN (cN r q w l / 4) := us_N (by omega) 2 2 (by decide)
  have n3 : (3 : Int64) = lN (2 ^ 2 - 1) := rfl
  have n7 : (7 : Int64) = lN (2 ^ 3 - 1) := rfl
  have n63 : (63 : Int64) = lN (2 ^ 6 - 1) := rfl
  have n24 : (16777215 : Int64) = lN (2 ^ 24 - 1) := rfl
  have hd : cN r q w l / 4 < 2 ^ 64 := by omega
  unfold rsS unI
  rw [hJ, e2]
  refine ⟨?_, ?_, ?_, ?_⟩
  · rw [upI_k (by decide), upI_k (by decide), upI_s, n7, l_and hd 3 (by decide), lN_i]
    congr 1; unfold cN; omega
  · rw [upI_k (by decide), upI_s, us_N hd 3 3 (by decide), n63, l_and (by omega) 6 (by decide), lN_i]
    congr 1; unfold cN; omega
  · rw [upI_s, us_N hd 9 9 (by decide), n24, l_and (by omega) 24 (by decide), lN_i]
    congr 1; unfold cN; omega
  · rw [upI_a (by omega), upI_a (by omega), upI_a (by omega), upI_s, n3, l_and (by omega) 2 (by decide), lN_i]
    congr 1; unfold cN; omega
theorem rsS_o {I : pI} {J : pJ} {s p a k : Nat} (h : a ≠ 52 + p) (h2 : a ≠ 55 ∨ k ≠ p) : rsS I J s p a k = I a k := by
  unfold rsS unI
  rw [upI_a h, upI_a h, upI_a h]
  rcases h2 with h2 | h2
  · exact upI_a h2
  · exact upI_k h2
theorem rsL_o {J : pJ} {s a k : Nat} : ∀ (m p : Nat) (I : pI), (a < 52 + p ∨ 52 + p + m ≤ a) → (a ≠ 55 ∨ k < p ∨ p + m ≤ k) → rsL J s m p I a k = I a k := by
  intro m
  induction m with
  | zero => intro p I _ _; rfl
  | succ m ih => intro p I h1 h2; rw [rsL, ih (p + 1) _ (by omega) (by omega), rsS_o (by omega) (by omega)]
theorem rsL_own {J : pJ} {s j r q w l : Nat} (h : TV r q w l) (hJ : J 57 (3 * s + j) = lN (cN r q w l)) : ∀ (m p : Nat) (I : pI), p ≤ j → j < p + m → p + m ≤ 3 → rsL J s m p I (52 + j) 0 = nI w ∧ rsL J s m p I (52 + j) 1 = nI q ∧ rsL J s m p I (52 + j) 2 = nI r ∧ rsL J s m p I 55 j = nI l := by
  intro m
  induction m with
  | zero => intro p I h1 h2; omega
  | succ m ih =>
    intro p I h1 h2 h3
    rw [rsL]
    by_cases e : p = j
    · subst e
      obtain ⟨e0, e1, e2, e3⟩ := rsS_own (I := I) (by omega) h hJ
      rw [rsL_o m (p + 1) _ (by omega) (by omega), rsL_o m (p + 1) _ (by omega) (by omega), rsL_o m (p + 1) _ (by omega) (by omega), rsL_o m (p + 1) _ (by omega) (by omega)]
      exact ⟨e0, e1, e2, e3⟩
    · exact ih (p + 1) _ (by omega) (by omega) (by omega)
theorem rsI_o {I : pI} {J : pJ} {c s a k : Nat} (hc : c ≤ 3) (h1 : a < 52 ∨ 52 + c ≤ a) (h2 : a ≠ 55 ∨ c ≤ k) (h3 : a ≠ 50 ∨ k ≠ 2) : rsI I J c s a k = I a k := by
  unfold rsI
  rw [rsL_o c 0 _ (by omega) (by omega)]
  rcases h3 with h3 | h3
  · exact upI_a h3
  · exact upI_k h3
theorem rsI_w {I : pI} {J : pJ} {c s : Nat} (hc : c ≤ 3) : rsI I J c s 50 2 = I 56 s := by
  unfold rsI
  rw [rsL_o c 0 _ (by omega) (by omega), upI_s]
/-! the reference -/
theorem unR_o {P a k : Nat} {r : Int32} : ∀ (m j : Nat) (K : pI), (a ≠ 70 ∨ k < 6 * P + j ∨ 6 * P + j + m ≤ k) → unR P r m j K a k = K a k := by
  intro m
  induction m with
  | zero => intro j K _; rfl
  | succ m ih =>
    intro j K h
    rw [unR, ih (j + 1) _ (by omega)]
    by_cases ha : a = 70
    · subst ha; exact upI_k (by omega)
    · exact upI_a ha
theorem unR_own {P i : Nat} {r : Int32} : ∀ (m j : Nat) (K : pI), j ≤ i → i < j + m → j + m ≤ 8 → unR P r m j K 70 (6 * P + i) = nib r (nI i) := by
  intro m
  induction m with
  | zero => intro j K h1 h2; omega
  | succ m ih =>
    intro j K h1 h2 h3
    rw [unR]
    by_cases e : j = i
    · subst e
      rw [unR_o m (j + 1) _ (Or.inr (Or.inl (by omega))), upI_s, shr_nib (by omega)]
    · exact ih (j + 1) _ (by omega) (by omega) (by omega)
theorem unK_o {K : pI} {k a i : Nat} {v : Int64} (h1 : a ≠ 81 ∨ i ≠ k) (h2 : a ≠ 68 ∨ i ≠ 3 + k) (h3 : a ≠ 69 ∨ i ≠ 3 + k) (h4 : a ≠ 70 ∨ i < 6 * (3 + k) ∨ 6 * (3 + k) + 6 ≤ i) : unK K k v a i = K a i := by
  have u : ∀ (K : pI) (x y : Nat) (z : Int32), (a ≠ x ∨ i ≠ y) → upI K x y z a i = K a i := fun K x y z h => h.elim (fun h => upI_a h) (fun h => upI_k h)
  unfold unK unA
  rw [unR_o 6 0 _ (by omega), u _ _ _ _ h3, u _ _ _ _ h2, u _ _ _ _ h1]
theorem unK_own {K : pI} {k r q w l : Nat} (h : TV r q w l) : unK K k (lN (rN r q w l)) 68 (3 + k) = nI w ∧ unK K k (lN (rN r q w l)) 69 (3 + k) = nI q ∧ (∀ j, j < 6 → unK K k (lN (rN r q w l)) 70 (6 * (3 + k) + j) = nib (nI r) (nI j)) ∧ unK K k (lN (rN r q w l)) 81 k = nI l := by
  have hl := rN_lt h
  obtain ⟨b1, b2, b3, b4, -⟩ := h
  have d8 : lN (rN r q w l) / 8 = lN (rN r q w l / 8) := pk_lDiv (b := 8) (by omega) (by decide) (by decide)
  have d64 : lN (rN r q w l) / 64 = lN (rN r q w l / 64) := pk_lDiv (b := 64) (by omega) (by decide) (by decide)
  have d16 : lN (rN r q w l) / 16384 = lN (rN r q w l / 16384) := pk_lDiv (b := 16384) (by omega) (by decide) (by decide)
  have m8 : ∀ n, n < 2 ^ 63 → lr (lN n) 8 = lN (n % 8) := fun n hn => pk_lRem (b := 8) hn (by decide) (by decide)
  have m256 : ∀ n, n < 2 ^ 63 → lr (lN n) 256 = lN (n % 256) := fun n hn => pk_lRem (b := 256) hn (by decide) (by decide)
  unfold unK
  refine ⟨?_, ?_, fun j hj => ?_, ?_⟩
  · rw [unR_o 6 0 _ (Or.inl (by decide))]
    unfold unA
    rw [upI_a (by decide), upI_s, d8, m8 _ (by omega), lN_i]
    congr 1; unfold rN; omega
  · rw [unR_o 6 0 _ (Or.inl (by decide))]
    unfold unA
    rw [upI_s, d64, m256 _ (by omega), lN_i]
    congr 1; unfold rN; omega
  · rw [unR_own 6 0 _ (by omega) (by omega) (by decide), d16, lN_i]
    congr 2; unfold rN; omega
  · rw [unR_o 6 0 _ (Or.inl (by decide))]
    unfold unA
    rw [upI_a (by decide), upI_a (by decide), upI_s, m8 _ (by omega), lN_i]
    congr 1; unfold rN; omega
theorem opW_o {s a i : Nat} : ∀ (m k : Nat) (K : pI), (a ≠ 67 ∨ i < 8 + k ∨ 8 + k + m ≤ i) → opW s m k K a i = K a i := by
  intro m
  induction m with
  | zero => intro k K _; rfl
  | succ m ih =>
    intro k K h
    rw [opW, ih (k + 1) _ (by omega)]
    by_cases ha : a = 67
    · subst ha; exact upI_k (by omega)
    · exact upI_a ha
theorem opW_own {s i : Nat} : ∀ (m k : Nat) (K : pI), k ≤ i → i < k + m → k + m ≤ 8 → opW s m k K 67 (8 + i) = nib (K 74 s) (nI i) := by
  intro m
  induction m with
  | zero => intro k K h1 h2; omega
  | succ m ih =>
    intro k K h1 h2 h3
    rw [opW]
    by_cases e : k = i
    · subst e
      rw [opW_o m (k + 1) _ (Or.inr (Or.inl (by omega))), upI_s, shr_nib (by omega)]
    · rw [ih (k + 1) _ (by omega) (by omega) (by omega), upI_a (by decide)]
theorem opI_o {K : pI} {J : pJ} {s a i : Nat} (h0 : a ≠ 67 ∨ i < 8 ∨ 16 ≤ i) (h1 : a ≠ 81 ∨ 3 ≤ i) (h2 : a ≠ 68 ∨ i < 3 ∨ 6 ≤ i) (h3 : a ≠ 69 ∨ i < 3 ∨ 6 ≤ i) (h4 : a ≠ 70 ∨ i < 18 ∨ 36 ≤ i) : opI K J s a i = K a i := by
  unfold opI
  rw [unK_o (by omega) (by omega) (by omega) (by omega), unK_o (by omega) (by omega) (by omega) (by omega), unK_o (by omega) (by omega) (by omega) (by omega), opW_o 8 0 _ (by omega)]
theorem opI_w {K : pI} {J : pJ} {s i : Nat} (hi : i < 8) : opI K J s 67 (8 + i) = nib (K 74 s) (nI i) := by
  unfold opI
  rw [unK_o (Or.inl (by decide)) (Or.inl (by decide)) (Or.inl (by decide)) (Or.inl (by decide)), unK_o (Or.inl (by decide)) (Or.inl (by decide)) (Or.inl (by decide)) (Or.inl (by decide)), unK_o (Or.inl (by decide)) (Or.inl (by decide)) (Or.inl (by decide)) (Or.inl (by decide)), opW_own 8 0 _ (by omega) (by omega) (by decide)]
theorem opI_own {K : pI} {J : pJ} {s p r q w l : Nat} (hp : p < 3) (h : TV r q w l) (hJ : J (75 + p) s = lN (rN r q w l)) : opI K J s 68 (3 + p) = nI w ∧ opI K J s 69 (3 + p) = nI q ∧ (∀ j, j < 6 → opI K J s 70 (6 * (3 + p) + j) = nib (nI r) (nI j)) ∧ opI K J s 81 p = nI l := by
  unfold opI
  rcases (show p = 0 ∨ p = 1 ∨ p = 2 by omega) with rfl | rfl | rfl
  · have hJ' : J 75 s = lN (rN r q w l) := hJ
    rw [hJ']
    obtain ⟨e0, e1, e2, e3⟩ := unK_own (K := opW s 8 0 K) (k := 0) h
    refine ⟨?_, ?_, fun j hj => ?_, ?_⟩
    · rw [unK_o (by omega) (by omega) (by omega) (by omega), unK_o (by omega) (by omega) (by omega) (by omega)]; exact e0
    · rw [unK_o (by omega) (by omega) (by omega) (by omega), unK_o (by omega) (by omega) (by omega) (by omega)]; exact e1
    · rw [unK_o (by omega) (by omega) (by omega) (by omega), unK_o (by omega) (by omega) (by omega) (by omega)]; exact e2 j hj
    · rw [unK_o (by omega) (by omega) (by omega) (by omega), unK_o (by omega) (by omega) (by omega) (by omega)]; exact e3
  · have hJ' : J 76 s = lN (rN r q w l) := hJ
    rw [hJ']
    obtain ⟨e0, e1, e2, e3⟩ := unK_own (K := unK (opW s 8 0 K) 0 (J 75 s)) (k := 1) h
    refine ⟨?_, ?_, fun j hj => ?_, ?_⟩
    · rw [unK_o (by omega) (by omega) (by omega) (by omega)]; exact e0
    · rw [unK_o (by omega) (by omega) (by omega) (by omega)]; exact e1
    · rw [unK_o (by omega) (by omega) (by omega) (by omega)]; exact e2 j hj
    · rw [unK_o (by omega) (by omega) (by omega) (by omega)]; exact e3
  · have hJ' : J 77 s = lN (rN r q w l) := hJ
    rw [hJ']
    exact unK_own h
