/-! THE LAW's INVARIANT: both systems in one memory -/
def RF (K K' : pI) : Prop := ∀ a k, a < 67 ∨ 73 < a → K' a k = K a k
theorem atI_hi {K : pI} {p a k : Nat} {x : Int32} (h : a < 67 ∨ 73 < a) : atI K p x a k = K a k := by
  unfold atI
  rw [upI_a (by omega), upI_a (by omega), upI_a (by omega), upI_a (by omega), upI_a (by omega), upI_a (by omega), reI_o (by omega) (by omega) (by omega)]
theorem erW_hi {K : pI} {p b c a k : Nat} (h : a < 67 ∨ 73 < a) : erW K p b c a k = K a k := by
  have e : erA K p a k = K a k := by unfold erA; rw [upI_a (by omega), upI_a (by omega), upI_a (by omega)]
  unfold erW
  split
  · rw [erL_o (by omega), e]
  · exact e
theorem wkL_hi {p b c a k : Nat} (h : a < 67 ∨ 73 < a) : ∀ (m : Nat) (K : pI), wkL p b c m K a k = K a k := by
  intro m
  induction m with
  | zero =>
    intro K
    rw [wkL, wkH]
    split
    · exact upI_a (by omega)
    split
    · rw [upI_a (by omega), reI_o (by omega) (by omega) (by omega)]
    split
    · exact erW_hi h
    split
    · exact srI_o (by omega) (by omega) (by omega)
    · exact upI_a (by omega)
  | succ m ih =>
    intro K
    rw [wkL, wkH]
    split
    · exact upI_a (by omega)
    split
    · rw [upI_a (by omega), reI_o (by omega) (by omega) (by omega)]
    split
    · exact erW_hi h
    split
    · exact srI_o (by omega) (by omega) (by omega)
    · rw [ih, frI_o (by omega) (by omega) (by omega) (by omega)]
theorem wkI_hi {K : pI} {p b c a k : Nat} (h : a < 67 ∨ 73 < a) : wkI K p b c a k = K a k := by
  unfold wkI; rw [wkL_hi h, upI_a (by omega)]
theorem moI_hi {K : pI} {p b c a k : Nat} (h : a < 67 ∨ 73 < a) : moI K p b c a k = K a k := by
  unfold moI
  split
  · rfl
  · rw [wkI_hi h]
    have e1 : ∀ X : pI, mvS X p a k = X a k := fun X => by
      unfold mvS; split
      · exact upI_a (by omega)
      · rfl
    rw [e1]
    unfold mvR
    split
    · exact atI_hi h
    · rfl
theorem rnR_hi {c a k : Nat} (h : a < 67 ∨ 73 < a) : ∀ (m : Nat) (s e : Int32) (K : pI), (rnR c m s e K).2 a k = K a k := by
  intro m
  induction m with
  | zero => intro s e K; rfl
  | succ m ih => intro s e K; rw [rnR, ih, moI_hi h]
theorem rnC_hi {c a k : Nat} (hc1 : 1 ≤ c) (hc : c ≤ 3) (h : a < 43 ∨ 48 ≤ a) : ∀ (m : Nat) (s e : Int32) (I : pI), (rnC c m s e I).2 a k = I a k := by
  intro m
  induction m with
  | zero => intro s e I; rfl
  | succ m ih =>
    intro s e I
    rw [rnC, ih]
    have := Nat.mod_lt (rnU (rnS s)) (show 0 < c by omega)
    exact mvA_o (by omega) (Or.inl (by omega)) (by omega) hc
theorem adv_hi {I : pI} {p c a k : Nat} (hp : p < 3) (hc : c ≤ 3) (h : a < 43 ∨ 48 ≤ a) : adv I 43 p c a k = I a k := by
  unfold adv; rw [adL_o (by omega) (Or.inl (by omega)) (by omega) hc, upI_a (by omega)]
theorem HRel.keep {I K I' K' : pI} {c : Nat} (h : HRel I K 43 0 0 c) (hI : ∀ a k, a < 48 → I' a k = I a k) (h64 : K' 64 2 = K 64 2) (h65 : ∀ k, K' 65 k = K 65 k) (h67 : ∀ k, k < 8 → K' 67 k = K 67 k) (h68 : ∀ a k, (a = 68 ∨ a = 69 ∨ a = 71 ∨ a = 72 ∨ a = 73) → k < 3 → K' a k = K a k) (h70 : ∀ k, k < 18 → K' 70 k = K 70 k) : HRel I' K' 43 0 0 c := by
  obtain ⟨r1, r2, r3, r4, r5, r6⟩ := h
  refine ⟨fun j hj => (r1 j hj).congr (hI _ _ (by omega)) (hI _ _ (by omega)) (hI _ _ (by omega)) (h68 _ _ (by omega) (by omega)) (h68 _ _ (by omega) (by omega)) (fun r hr => h70 _ (by omega)), fun k hk => by rw [hI _ _ (by omega), h67 _ (by omega)]; exact r2 k hk, r3.congr (fun i k hi => hI _ _ (by omega)) h65, by rw [hI _ _ (by omega)]; exact r4, by rw [h64]; exact r5, fun z j hj => ?_⟩
  have hx := r6 z j hj
  unfold XRel at hx ⊢
  rw [hI _ _ (by omega), hI _ _ (by omega), hI _ _ (by omega), h68 71 _ (by omega) (by omega), h68 72 _ (by omega) (by omega), h68 73 _ (by omega) (by omega)]
  exact hx
theorem HRel.thr {I K : pI} {c : Nat} {v : Int32} (h : HRel I K 43 0 0 c) : HRel I (upI K 64 0 v) 43 0 0 c :=
  h.keep (fun _ _ _ => rfl) (upI_k (by decide)) (fun _ => upI_a (by decide)) (fun _ _ => upI_a (by decide)) (fun a k ha _ => upI_a (by omega)) (fun _ _ => upI_a (by decide))
def TRl (I : pI) : Prop := ∃ n, n ≤ 3000 ∧ I 48 1 = nI n ∧ I 64 21 = nI n ∧ ∀ j, j < n → I 49 j = I 82 (n - 1 - j)
def LI (I : pI) (c : Nat) : Prop := HRel I I 43 0 0 c ∧ (1 ≤ c ∧ c ≤ 3) ∧ (∃ m, 1 ≤ m ∧ m ≤ 5 ∧ I 0 3 = nI m ∧ I 64 1 = nI m) ∧ I 48 2 = I 64 12 ∧ TRl I
/-- the class first, then the reference -/
theorem LI.two {I I1 I2 : pI} {c c' : Nat} (h : LI I c) (hc' : 1 ≤ c' ∧ c' ≤ 3) (hF : ∀ a k, 64 ≤ a → I1 a k = I a k) (hF2 : ∀ a k, (a = 48 ∨ a = 49) → I1 a k = I a k) (hG : ∀ a k, a < 64 → I2 a k = I1 a k) (hG2 : I2 64 12 = I1 64 12 ∧ I2 64 21 = I1 64 21 ∧ ∀ k, I2 82 k = I1 82 k) (hex : ∃ m, 1 ≤ m ∧ m ≤ 5 ∧ I1 0 3 = nI m ∧ I2 64 1 = nI m) (hs : HRel I I1 43 0 0 c → HRel I1 I2 43 0 0 c') : LI I2 c' := by
  obtain ⟨h1, -, -, h4, n, n1, n2, n3, n4⟩ := h
  have g := hs (h1.keep (fun _ _ _ => rfl) (hF _ _ (by omega)) (fun _ => hF _ _ (by omega)) (fun _ _ => hF _ _ (by omega)) (fun a k ha _ => hF _ _ (by omega)) (fun _ _ => hF _ _ (by omega)))
  refine ⟨g.keep (fun a k ha => hG a k (by omega)) rfl (fun _ => rfl) (fun _ _ => rfl) (fun _ _ _ _ => rfl) (fun _ _ => rfl), hc', ?_, ?_, n, n1, ?_, ?_, fun j hj => ?_⟩
  · obtain ⟨m, m1, m2, m3, m4⟩ := hex
    exact ⟨m, m1, m2, by rw [hG _ _ (by omega)]; exact m3, m4⟩
  · rw [hG _ _ (by omega), hF2 _ _ (by omega), hG2.1, hF _ _ (by omega)]; exact h4
  · rw [hG _ _ (by omega), hF2 _ _ (by omega)]; exact n2
  · rw [hG2.2.1, hF _ _ (by omega)]; exact n3
  · rw [hG _ _ (by omega), hF2 _ _ (by omega), hG2.2.2, hF _ _ (by omega)]; exact n4 j hj
/-- the class has refused: the reference says so too, and nothing else changes -/
theorem LI.thr {I : pI} {c : Nat} {v : Int32} (h : LI I c) : LI (upI I 64 0 v) c := by
  obtain ⟨h1, h2, ⟨m, m1, m2, m3, m4⟩, h4, n, n1, n2, n3, n4⟩ := h
  refine ⟨h1.thr.keep (fun a k ha => upI_a (by omega)) rfl (fun _ => rfl) (fun _ _ => rfl) (fun _ _ _ _ => rfl) (fun _ _ => rfl), h2, ⟨m, m1, m2, by rw [upI_a (by decide)]; exact m3, by rw [upI_k (by decide)]; exact m4⟩, by rw [upI_a (by decide), upI_k (by decide)]; exact h4, n, n1, by rw [upI_a (by decide)]; exact n2, by rw [upI_k (by decide)]; exact n3, fun j hj => by rw [upI_a (by decide), upI_a (by decide)]; exact n4 j hj⟩
/-- exhibit -/
theorem shI_hi {I : pI} {x n : Int32} {a k : Nat} (h : 48 ≤ a) : shI I x n a k = I a k := by
  unfold shI; rw [clI_o (by omega) (by omega), ldL_o _ _ _ (by omega), upI_a (by omega)]
theorem shI_x {I : pI} {x n : Int32} : shI I x n 0 3 = x := by
  unfold shI; rw [clI_o (by omega) (by omega), ldL_o _ _ _ (by omega), upI_s]
theorem wzL_o {a i : Nat} : ∀ (m k : Nat) (K : pI), (a ≠ 67 ∨ i < k ∨ k + m ≤ i) → wzL m k K a i = K a i := by
  intro m
  induction m with
  | zero => intro k K _; rfl
  | succ m ih =>
    intro k K h
    rw [wzL, ih _ _ (by omega)]
    rcases h with h | h
    · exact upI_a h
    · exact upI_k (by omega)
theorem wzL_z {i : Nat} : ∀ (m k : Nat) (K : pI), k ≤ i → i < k + m → wzL m k K 67 i = 0 := by
  intro m
  induction m with
  | zero => intro k K h1 h2; omega
  | succ m ih =>
    intro k K h1 h2
    rw [wzL]
    by_cases e : k = i
    · subst e; rw [wzL_o _ _ _ (by omega), upI_s]
    · exact ih _ _ (by omega) (by omega)
theorem xzB_o {K : pI} {p a i : Nat} (h1 : a < 68 ∨ 73 < a ∨ a = 70 ∨ i ≠ p) (h2 : a ≠ 70 ∨ i < 6 * p ∨ 6 * p + 6 ≤ i) : xzB K p a i = K a i := by
  unfold xzB
  have up : ∀ (X : pI) (y : Nat), 71 ≤ y → y ≤ 73 → upI X y p 0 a i = X a i := fun X y h3 h4 => by
    by_cases e : a = y
    · exact upI_k (by omega)
    · exact upI_a e
  rw [up _ 73 (by decide) (by decide), up _ 72 (by decide) (by decide), up _ 71 (by decide) (by decide)]
  by_cases e70 : a = 70
  · subst e70; exact reI_70 (by omega)
  · by_cases e : a = 68 ∨ a = 69
    · exact reI_P e70 (by omega)
    · exact reI_o e70 (by omega) (by omega)
theorem xzL_o {a i : Nat} : ∀ (m p : Nat) (K : pI), (a < 68 ∨ 73 < a ∨ a = 70 ∨ i < p ∨ p + m ≤ i) → (a ≠ 70 ∨ i < 6 * p ∨ 6 * (p + m) ≤ i) → xzL m p K a i = K a i := by
  intro m
  induction m with
  | zero => intro p K _ _; rfl
  | succ m ih => intro p K h1 h2; rw [xzL, ih _ _ (by omega) (by omega), xzB_o (by omega) (by omega)]
theorem xzL_z {j : Nat} : ∀ (m p : Nat) (K : pI), p ≤ j → j < p + m → (∀ a, (a = 68 ∨ a = 69 ∨ a = 71 ∨ a = 72 ∨ a = 73) → xzL m p K a j = 0) ∧ (∀ r, r < 6 → xzL m p K 70 (6 * j + r) = 0) := by
  intro m
  induction m with
  | zero => intro p K h1 h2; omega
  | succ m ih =>
    intro p K h1 h2
    by_cases e : p = j
    · subst e
      refine ⟨fun a ha => ?_, fun r hr => ?_⟩
      · rw [xzL, xzL_o _ _ _ (by omega) (by omega)]
        unfold xzB
        rcases ha with rfl | rfl | rfl | rfl | rfl
        · rw [upI_a (by decide), upI_a (by decide), upI_a (by decide)]; exact reI_s.1
        · rw [upI_a (by decide), upI_a (by decide), upI_a (by decide)]; exact reI_s.2
        · rw [upI_a (by decide), upI_a (by decide), upI_s]
        · rw [upI_a (by decide), upI_s]
        · rw [upI_s]
      · rw [xzL, xzL_o _ _ _ (by omega) (by omega)]
        unfold xzB
        rw [upI_a (by decide), upI_a (by decide), upI_a (by decide)]; exact reI_z hr
    · obtain ⟨g1, g2⟩ := ih (p + 1) (xzB K p) (by omega) (by omega)
      exact ⟨fun a ha => by rw [xzL]; exact g1 a ha, fun r hr => by rw [xzL]; exact g2 r hr⟩
theorem mdI_o {K : pI} {a k : Nat} (h : a ≠ 65) (h2 : a ≠ 66) (h3 : a ≠ 64 ∨ (k ≠ 23 ∧ k ≠ 0)) : mdI K a k = K a k := by
  unfold mdI
  rw [cpL_o h, flI_o h2 (by omega)]
  by_cases e : a = 64
  · exact upI_k (by omega)
  · exact upI_a e
theorem mdI_0 {K : pI} : mdI K 64 0 = 0 := by
  unfold mdI; rw [cpL_o (by decide), flI_o (by decide) (by decide), upI_s]
theorem mdI_65 {K : pI} {k : Nat} : mdI K 65 k = cpL 160 0 (flI (upI K 64 0 0) (K 64 1)) 65 k := rfl
theorem exR_o {K : pI} {x n : Int32} {a k : Nat} (h : a < 65 ∨ 73 < a) (h2 : a ≠ 64 ∨ (k ≠ 0 ∧ k ≠ 1 ∧ k ≠ 2 ∧ k ≠ 23)) : exR K x n a k = K a k := by
  unfold exR
  rw [xzL_o _ _ _ (by omega) (by omega), wzL_o _ _ _ (by omega), mdI_o (by omega) (by omega) (by omega)]
  by_cases e : a = 64
  · rw [upI_k (by omega), upI_k (by omega), upI_k (by omega)]
  · rw [upI_a e, upI_a e, upI_a e]
theorem exR_64 {K : pI} {x n : Int32} : exR K x n 64 0 = 0 ∧ exR K x n 64 1 = x ∧ exR K x n 64 2 = n := by
  unfold exR
  refine ⟨?_, ?_, ?_⟩
  · rw [xzL_o _ _ _ (by omega) (by omega), wzL_o _ _ _ (by omega), mdI_0]
  · rw [xzL_o _ _ _ (by omega) (by omega), wzL_o _ _ _ (by omega), mdI_o (by decide) (by decide) (by decide), upI_k (by decide), upI_s]
  · rw [xzL_o _ _ _ (by omega) (by omega), wzL_o _ _ _ (by omega), mdI_o (by decide) (by decide) (by decide), upI_s]
theorem exR_65 {K : pI} {x n : Int32} {k : Nat} : exR K x n 65 k = cpL 160 0 (flI (upI (upI (upI (upI K 64 0 0) 64 1 x) 64 2 n) 64 0 0) x) 65 k := by
  unfold exR
  rw [xzL_o _ _ _ (by omega) (by omega), wzL_o _ _ _ (by omega), mdI_65, upI_k (by decide), upI_s]
theorem nib_z {x : Int32} (h : x = 0) {j : Nat} (hj : j < 8) : nib x (nI j) = 0 := by rw [h]; exact nib_0 hj
/-- a hall that is cleared, on both sides -/
theorem HRel.zero {I K : pI} {c : Nat} (hG : GRel I K) (h1 : I 43 1 = nI c) (h2 : K 64 2 = nI c) (hw : I 43 2 = 0) (hw2 : ∀ k, k < 8 → K 67 k = 0) (hI : ∀ j k, j < 3 → k < 6 → I (45 + j) k = 0) (hK : ∀ a k, (a = 68 ∨ a = 69 ∨ a = 71 ∨ a = 72 ∨ a = 73) → k < 3 → K a k = 0) (h70 : ∀ k, k < 18 → K 70 k = 0) : HRel I K 43 0 0 c := by
  refine ⟨fun j hj => ⟨0, 0, by decide, by decide, hI j 0 hj (by decide), by rw [Nat.zero_add]; exact hK 68 j (by omega) hj, hI j 1 hj (by decide), by rw [Nat.zero_add]; exact hK 69 j (by omega) hj, fun r hr => ?_, ⟨nib_z (hI j 2 hj (by decide)) (by decide), nib_z (hI j 2 hj (by decide)) (by decide)⟩, fun _ => ⟨rfl, hI j 2 hj (by decide)⟩⟩, fun k hk => by rw [nib_z hw hk, Nat.zero_add, hw2 k hk], hG, h1, h2, fun _ j hj => ?_⟩
  · rw [nib_z (hI j 2 hj (by decide)) (by omega), h70 _ (by omega)]
  · have e : ∀ k, k < 6 → I (43 + 2 + j) k = 0 := fun k hk => hI j k hj hk
    unfold XRel
    rw [e 3 (by decide), e 4 (by decide), e 5 (by decide), Nat.zero_add, hK 71 j (by omega) hj, hK 72 j (by omega) hj, hK 73 j (by omega) hj]
    exact ⟨rfl, Or.inl rfl, rfl, rfl⟩
theorem LI.exhibit {I : pI} {c c' m : Nat} (h : LI I c) (hm1 : 1 ≤ m) (hm5 : m ≤ 5) (hc1 : 1 ≤ c') (hc3 : c' ≤ 3) : LI (exR (shI I (nI m) (nI c')) (nI m) (nI c')) c' := by
  refine h.two ⟨hc1, hc3⟩ (fun a k ha => shI_hi (by omega)) (fun a k ha => shI_hi (by omega)) (fun a k ha => exR_o (by omega) (by omega)) ⟨exR_o (by omega) (by omega), exR_o (by omega) (by omega), fun k => exR_o (by omega) (by omega)⟩ ⟨m, hm1, hm5, shI_x, exR_64.2.1⟩ (fun _ => ?_)
  refine HRel.zero (G_fill hm1 hm5 (I := upI I 0 3 (nI m)) (fun i j hi hj => ?_) (fun k _ => exR_65)) ?_ exR_64.2.2 ?_ (fun k hk => ?_) (fun j k hj hk => ?_) (fun a k ha hk => ?_) (fun k hk => ?_)
  · unfold shI; rw [clI_o (by omega) (by omega)]
  · unfold shI; exact clI_1
  · unfold shI; exact clI_2
  · unfold exR; rw [xzL_o _ _ _ (by omega) (by omega), wzL_z _ _ _ (by omega) (by omega)]
  · unfold shI; exact clI_z (h := 43) hj hk
  · unfold exR; exact (xzL_z 3 0 _ (by omega) (by omega)).1 a ha
  · unfold exR
    have := (xzL_z (j := k / 6) 3 0 (wzL 8 0 (mdI (upI (upI (upI (shI I (nI m) (nI c')) 64 0 0) 64 1 (nI m)) 64 2 (nI c')))) (by omega) (by omega)).2 (k % 6) (by omega)
    rw [show 6 * (k / 6) + k % 6 = k by omega] at this
    exact this
/-- mend -/
theorem LI.mend {I : pI} {c : Nat} (h : LI I c) : LI (mdI (ldL (insXs (I 0 3)) 40 0 I)) c := by
  obtain ⟨m, m1, m5, e1, e2⟩ := h.2.2.1
  have ho : ∀ a k, (a < 3 ∨ 43 ≤ a) → ldL (insXs (I 0 3)) 40 0 I a k = I a k := fun a k ha => ldL_o _ _ _ (by omega)
  have e3 : ldL (insXs (I 0 3)) 40 0 I 64 1 = nI m := by rw [ho 64 1 (by omega)]; exact e2
  refine h.two h.2.1 (fun a k ha => ho a k (by omega)) (fun a k ha => ho a k (by omega)) (fun a k ha => mdI_o (by omega) (by omega) (by omega)) ⟨mdI_o (by decide) (by decide) (by decide), mdI_o (by decide) (by decide) (by decide), fun k => mdI_o (by decide) (by decide) (by omega)⟩ ⟨m, m1, m5, by rw [ho 0 3 (by omega)]; exact e1, by rw [mdI_o (by decide) (by decide) (by decide)]; exact e3⟩ (fun g => ?_)
  obtain ⟨r1, r2, r3, r4, r5, r6⟩ := g
  have k1 : ∀ a k, 67 ≤ a → mdI (ldL (insXs (I 0 3)) 40 0 I) a k = ldL (insXs (I 0 3)) 40 0 I a k := fun a k ha => mdI_o (by omega) (by omega) (by omega)
  refine ⟨fun j hj => (r1 j hj).congr (ho _ _ (by omega)) (ho _ _ (by omega)) (ho _ _ (by omega)) (k1 _ _ (by decide)) (k1 _ _ (by decide)) (fun r hr => k1 _ _ (by decide)), fun k hk => by rw [ho _ _ (by omega), k1 _ _ (by decide)]; exact r2 k hk, ?_, by rw [ho _ _ (by omega)]; exact r4, by rw [mdI_o (by decide) (by decide) (by decide)]; exact r5, fun z j hj => ?_⟩
  · refine G_fill m1 m5 (I := I) (K := upI (ldL (insXs (I 0 3)) 40 0 I) 64 0 0) (fun i j hi hj => by rw [e1]) (fun k _ => by rw [mdI_65, e3])
  · have hx := r6 z j hj
    unfold XRel at hx ⊢
    rw [ho _ _ (by omega), ho _ _ (by omega), ho _ _ (by omega), k1 71 _ (by decide), k1 72 _ (by decide), k1 73 _ (by decide)]
    exact hx
