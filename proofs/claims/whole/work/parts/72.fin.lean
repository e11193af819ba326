/-! THE JUDGES ALIKE: the end of the search, and what it leaves alone -/
theorem sim_all2 {c : Nat} (hc : c ≤ 3) : ∀ (m s : Nat) (to : Nat → Option Nat) (x y : Int32 × Nat × pI × pJ), s + m = 3000 → s ≤ x.2.1 → SA to c s x y → ∃ to' s', SA to' c s' (allC c m s x) (allR c m s y) ∧ ((allC c m s x).1 = 0 → s' = (allC c m s x).2.1) := by
  intro m
  induction m with
  | zero =>
    intro s to x y hs hle h
    refine ⟨to, s, h, fun h0 => ?_⟩
    obtain ⟨e, h⟩ := h
    have h3 : x.2.1 ≤ 3000 := by
      rcases h with ⟨-, -, hJ⟩ | ⟨-, hT⟩
      · exact hJ.1.2.2.1.1
      · exact hT.1
    show s = x.2.1
    omega
  | succ m ih =>
    intro s to x y hs hle h
    rw [allC, allR]
    by_cases hg : s < x.2.1 ∧ x.1 = 0
    · obtain ⟨g1, to', g2, -⟩ := h.row hc hg.1 hg.2
      have hy : y.1 = -1 := by
        rcases h.2 with ⟨-, hy, -⟩ | ⟨hx, -⟩
        · exact hy
        · rcases hx with ⟨hx, -⟩ | ⟨hx, -⟩ <;> (rw [hg.2] at hx; exact absurd hx (by decide))
      rw [if_pos hg, if_pos ⟨by rw [← h.1]; exact hg.1, hy⟩]
      exact ih (s + 1) to' _ _ (by omega) (by have := hg.1; omega) g2
    · rw [if_neg hg, if_neg (fun z => hg (by
        refine ⟨by rw [h.1]; exact z.1, ?_⟩
        rcases h.2 with ⟨hx, -, -⟩ | ⟨hx, -⟩
        · exact hx
        · rcases hx with ⟨-, hx⟩ | ⟨-, hx⟩ <;> (rw [z.2] at hx; exact absurd hx (by decide))))]
      refine ⟨to, s, h, fun h0 => ?_⟩
      have : ¬ s < x.2.1 := fun z => hg ⟨z, h0⟩
      omega
theorem mvJ_o {I : pI} {c p a k : Nat} (hc : c ≤ 3) (hp : p < 3) (ha : a < 50 ∨ 55 < a) : mvJ I c p a k = I a k := by
  unfold mvJ; rw [mvA_o (by omega) (Or.inl (by omega)) (by omega) hc, lfC_o (by omega)]
theorem nwI_t {I : pI} {J : pJ} {c s p f k : Nat} (hk : k ≠ 2) : nwI I J c s p f 48 k = I 48 k := by
  unfold nwI ntI adB adA
  rw [upI_a (by decide), upI_a (by decide), upI_a (by decide), upI_a (by decide), upI_a (by decide), upI_a (by decide), upI_k hk]
theorem nwI_49 {I : pI} {J : pJ} {c s p f k : Nat} : nwI I J c s p f 49 k = I 49 k := by
  unfold nwI ntI adB adA
  rw [upI_a (by decide), upI_a (by decide), upI_a (by decide), upI_a (by decide), upI_a (by decide), upI_a (by decide), upI_a (by decide)]
/-- what the class's search leaves alone -/
def FC (I0 : pI) (J0 : pJ) (I : pI) (J : pJ) : Prop := (∀ a k, (a < 48 ∨ a = 49 ∨ 61 < a ∨ (a = 48 ∧ k ≠ 2)) → I a k = I0 a k) ∧ (∀ a k, a ≠ 57 → J a k = J0 a k)
theorem FC.fw {I0 I : pI} {J0 J : pJ} {c s p f : Nat} (hc : c ≤ 3) (hp : p < c) (h : FC I0 J0 I J) : FC I0 J0 (fwS I J c s p f).2.2.1 (fwS I J c s p f).2.2.2 := by
  have h1 : FC I0 J0 (rsI I J c s) J := ⟨fun a k ha => by rw [rsI_o hc (by omega) (by omega) (by omega)]; exact h.1 a k ha, h.2⟩
  unfold fwS
  split
  · exact h1
  · have h2 : FC I0 J0 (mvJ (rsI I J c s) c p) J := ⟨fun a k ha => by rw [mvJ_o hc (by omega) (by omega)]; exact h1.1 a k ha, h1.2⟩
    revert h2
    generalize mvJ (rsI I J c s) c p = X
    intro h2
    unfold fwT
    split
    · split
      · exact h2
      · refine ⟨fun a k ha => ?_, fun a k ha => by show adJ X f c 0 J a k = _; rw [adJ_a ha]; exact h2.2 a k ha⟩
        show nwI X J c s p f a k = _
        rw [← h2.1 a k ha]
        rcases ha with ha | rfl | ha | ⟨rfl, ha⟩
        · exact nwI_o (by omega)
        · exact nwI_49
        · exact nwI_o (by omega)
        · exact nwI_t ha
    · refine ⟨fun a k ha => ?_, h2.2⟩
      show ntI X _ _ a k = _
      unfold ntI
      rw [upI_a (by omega), upI_a (by omega)]
      exact h2.1 a k ha
theorem FC.row {I0 : pI} {J0 : pJ} {c s : Nat} (hc : c ≤ 3) : ∀ (m p : Nat) (x : Int32 × Nat × pI × pJ), p + m ≤ c → FC I0 J0 x.2.2.1 x.2.2.2 → FC I0 J0 (rowC c s m p x).2.2.1 (rowC c s m p x).2.2.2 := by
  intro m
  induction m with
  | zero => intro p x _ h; exact h
  | succ m ih =>
    intro p x hp h
    rw [rowC]
    split
    · exact ih (p + 1) _ (by omega) (h.fw hc (by omega))
    · exact h
theorem FC.all {I0 : pI} {J0 : pJ} {c : Nat} (hc : c ≤ 3) : ∀ (m s : Nat) (x : Int32 × Nat × pI × pJ), FC I0 J0 x.2.2.1 x.2.2.2 → FC I0 J0 (allC c m s x).2.2.1 (allC c m s x).2.2.2 := by
  intro m
  induction m with
  | zero => intro s x h; exact h
  | succ m ih =>
    intro s x h
    rw [allC]
    split
    · exact ih (s + 1) _ (FC.row hc c 0 x (by omega) h)
    · exact h
/-- what the reference's search leaves alone -/
def FR (K0 : pI) (J0 : pJ) (K : pI) (J : pJ) : Prop := (∀ a k, (a < 64 ∨ a = 65 ∨ a = 66 ∨ a = 82) → K a k = K0 a k) ∧ (∀ k, k ≠ 12 → K 64 k = K0 64 k) ∧ (∀ k, k < 8 → K 67 k = K0 67 k) ∧ (∀ a k, (a = 68 ∨ a = 69 ∨ a = 71 ∨ a = 72 ∨ a = 73) → k < 3 → K a k = K0 a k) ∧ (∀ k, k < 18 → K 70 k = K0 70 k) ∧ (∀ a k, (a < 75 ∨ 79 < a) → J a k = J0 a k)
theorem FR.of {K0 K K' : pI} {J0 J J' : pJ} (h : FR K0 J0 K J) (h1 : ∀ a k, (a < 64 ∨ a = 65 ∨ a = 66 ∨ a = 82 ∨ a = 71 ∨ a = 72 ∨ a = 73) → (68 ≤ a → a ≤ 73 → k < 3) → K' a k = K a k) (h2 : ∀ k, k ≠ 12 → K' 64 k = K 64 k) (h3 : ∀ k, k < 8 → K' 67 k = K 67 k) (h4 : ∀ k, k < 3 → K' 68 k = K 68 k ∧ K' 69 k = K 69 k) (h5 : ∀ k, k < 18 → K' 70 k = K 70 k) (h6 : ∀ a k, (a < 75 ∨ 79 < a) → J' a k = J a k) : FR K0 J0 K' J' := by
  obtain ⟨g1, g2, g3, g4, g5, g6⟩ := h
  refine ⟨fun a k ha => by rw [h1 a k (by omega) (by omega)]; exact g1 a k ha, fun k hk => by rw [h2 k hk]; exact g2 k hk, fun k hk => by rw [h3 k hk]; exact g3 k hk, fun a k ha hk => ?_, fun k hk => by rw [h5 k hk]; exact g5 k hk, fun a k ha => by rw [h6 a k ha]; exact g6 a k ha⟩
  rcases ha with rfl | rfl | ha
  · rw [(h4 k hk).1]; exact g4 _ k (by omega) hk
  · rw [(h4 k hk).2]; exact g4 _ k (by omega) hk
  · rw [h1 a k (by omega) (fun _ _ => hk)]; exact g4 a k (by omega) hk
theorem FR.ex {to : Nat → Option Nat} {C : pI} {JC : pJ} {K0 K : pI} {J0 J : pJ} {c s k f : Nat} (hc : c ≤ 3) (hk : k < 3) (hs : s < f) (hJ : JRel to C JC K J c f s k) (h : FR K0 J0 K J) : FR K0 J0 (exS K J c s k f).2.2.1 (exS K J c s k f).2.2.2 := by
  have h1 : FR K0 J0 (opI K J s) J := h.of (fun a k ha hk => opI_o (by omega) (by omega) (by omega) (by omega) (by omega)) (fun k _ => opI_o (by omega) (by omega) (by omega) (by omega) (by omega)) (fun k _ => opI_o (by omega) (by omega) (by omega) (by omega) (by omega)) (fun k _ => ⟨opI_o (by omega) (by omega) (by omega) (by omega) (by omega), opI_o (by omega) (by omega) (by omega) (by omega) (by omega)⟩) (fun k _ => opI_o (by omega) (by omega) (by omega) (by omega) (by omega)) (fun _ _ _ => rfl)
  have hld : ∀ {K' : pI} {J' : pJ} {t : Nat}, FR K0 J0 K' J' → FR K0 J0 K' (ldJ J' s t) := fun h => h.of (fun _ _ _ _ => rfl) (fun _ _ => rfl) (fun _ _ => rfl) (fun _ _ => ⟨rfl, rfl⟩) (fun _ _ => rfl) (fun a k ha => by unfold ldJ; exact upJ_a (by omega))
  unfold exS
  split
  · rename_i hg
    obtain ⟨hQ, hH⟩ := open_rel hc hJ.1 hJ.2.1 hs
    have hF := FP.moJ hc hg.1 hH
    obtain ⟨f1, f2, f3, f4⟩ := hF
    have h2 : FR K0 J0 (moJ (opI K J s) c k) J := by
      refine h1.of (fun a i ha hi => ?_) (fun i _ => ?_) (fun i hi => ?_) (fun i hi => ⟨?_, ?_⟩) (fun i hi => ?_) (fun _ _ _ => rfl)
      · by_cases h7 : 68 ≤ a ∧ a ≤ 73
        · rw [f3 a i h7.1 h7.2 (by omega) (by have := hi h7.1 h7.2; omega), lfR_o (by omega)]
        · rw [f1 a i (by omega), lfR_o (by omega)]
      · rw [f1 64 i (by omega), lfR_o (by omega)]
      · rw [f2 i hi, lfR_o (by omega)]
      · rw [f3 68 i (by omega) (by omega) (by omega) (by omega), lfR_o (by omega)]
      · rw [f3 69 i (by omega) (by omega) (by omega) (by omega), lfR_o (by omega)]
      · rw [f4 i (by omega), lfR_o (by omega)]
    revert h2
    generalize moJ (opI K J s) c k = Y
    intro h2
    have h3 : FR K0 J0 (nwK Y s k f) (fdJ Y J f) := h2.of (fun a i ha _ => nwK_o (by omega) (by omega) (by omega)) (fun i hi => nwK_o (by omega) (by omega) (by omega)) (fun i _ => nwK_o (by omega) (by omega) (by omega)) (fun i _ => ⟨nwK_o (by omega) (by omega) (by omega), nwK_o (by omega) (by omega) (by omega)⟩) (fun i _ => nwK_o (by omega) (by omega) (by omega)) (fun a i ha => by unfold fdJ; rw [upJ_a (by omega), upJ_a (by omega), upJ_a (by omega)])
    unfold exT
    split
    · split
      · exact h2
      · split
        · exact h3
        · exact hld h3
    · exact hld h2
  · exact hld h1
theorem FR.row {K0 : pI} {J0 : pJ} {c s : Nat} (hc : c ≤ 3) : ∀ (d p : Nat) (to : Nat → Option Nat) (x y : Int32 × Nat × pI × pJ), p + d = 3 → s < x.2.1 → SR to c s p x y → FR K0 J0 y.2.2.1 y.2.2.2 → FR K0 J0 (rowR c s d p y).2.2.1 (rowR c s d p y).2.2.2 := by
  intro d
  induction d with
  | zero => intro p to x y _ _ _ h; exact h
  | succ d ih =>
    intro p to x y hp hs h hF
    by_cases h0 : x.1 = 0
    · obtain ⟨e, h1⟩ := id h
      rcases h1 with ⟨-, hy, hJ⟩ | ⟨hx, -⟩
      · rw [rowR, if_pos hy]
        have hF2 := FR.ex (k := p) (s := s) (f := y.2.1) hc (by omega) (by rw [← e]; exact hs) (show JRel to x.2.2.1 x.2.2.2 y.2.2.1 y.2.2.2 c y.2.1 s p by rw [← e]; exact hJ) hF
        by_cases hpc : p < c
        · obtain ⟨hle, to', hS⟩ := sim_pair hc hpc hs hJ
          rw [← e] at hF2 ⊢
          exact ih (p + 1) to' _ _ (by omega) (Nat.lt_of_lt_of_le hs hle) hS hF2
        · have hS := sim_none hc (by omega) (by omega) hs hJ
          rw [← e] at hF2 ⊢
          exact ih (p + 1) _ (0, x.2.1, x.2.2.1, x.2.2.2) _ (by omega) hs hS hF2
      · rcases hx with ⟨hx, -⟩ | ⟨hx, -⟩ <;> (rw [h0] at hx; exact absurd hx (by decide))
    · obtain ⟨hy, hS⟩ := h.stop (s' := s) (k' := 3) h0
      rw [rowR_end hy]
      exact hF
theorem FR.all {K0 : pI} {J0 : pJ} {c : Nat} (hc : c ≤ 3) : ∀ (m s : Nat) (to : Nat → Option Nat) (x y : Int32 × Nat × pI × pJ), SA to c s x y → FR K0 J0 y.2.2.1 y.2.2.2 → FR K0 J0 (allR c m s y).2.2.1 (allR c m s y).2.2.2 := by
  intro m
  induction m with
  | zero => intro s to x y _ h; exact h
  | succ m ih =>
    intro s to x y h hF
    rw [allR]
    by_cases hg : s < y.2.1 ∧ y.1 = -1
    · have hx0 : x.1 = 0 := by
        rcases h.2 with ⟨hx, -, -⟩ | ⟨hx, -⟩
        · exact hx
        · rcases hx with ⟨-, hx⟩ | ⟨-, hx⟩ <;> (rw [hg.2] at hx; exact absurd hx (by decide))
      have hs : s < x.2.1 := by rw [h.1]; exact hg.1
      obtain ⟨-, to', g2, -⟩ := h.row hc hs hx0
      rw [if_pos hg]
      refine ih (s + 1) to' _ _ g2 ?_
      obtain ⟨e, h2⟩ := h
      rcases h2 with ⟨-, hy, hJ⟩ | ⟨hx, -⟩
      · have hS : SR to c s 0 x (-1, y.2.1, y.2.2.1, upJ y.2.2.2 79 s 0) := ⟨e, Or.inl ⟨hx0, rfl, hJ.begin hc⟩⟩
        refine FR.row hc 3 0 to x _ rfl hs hS ?_
        exact hF.of (fun _ _ _ _ => rfl) (fun _ _ => rfl) (fun _ _ => rfl) (fun _ _ => ⟨rfl, rfl⟩) (fun _ _ => rfl) (fun a k ha => upJ_a (by omega))
      · rcases hx with ⟨hx, -⟩ | ⟨hx, -⟩ <;> (rw [hx0] at hx; exact absurd hx (by decide))
    · rw [if_neg hg]; exact hF
