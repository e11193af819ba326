/-! BOTH SIDES ALIKE. I: the class's memory, K: the reference's. A process: the contender at a, the reference's number P -/
def PRel (I K : pI) (a P : Nat) : Prop := ∃ w q : Nat, w ≤ 4 ∧ q ≤ 40 ∧ I a 0 = nI w ∧ K 68 P = nI w ∧ I a 1 = nI q ∧ K 69 P = nI q ∧ (∀ r, r < 6 → nib (I a 2) (nI r) = K 70 (6 * P + r)) ∧ (nib (I a 2) (nI 6) = 0 ∧ nib (I a 2) (nI 7) = 0) ∧ (w = 0 → q = 0 ∧ I a 2 = 0)
def XRel (I K : pI) (a P : Nat) : Prop := I a 3 = K 71 P ∧ (I a 3 = 0 ∨ I a 3 = 1) ∧ I a 4 = K 72 P ∧ I a 5 = K 73 P
/-- the programs are alike, and each instruction is one -/
def GRel (I K : pI) : Prop := ∀ i, i < 40 → (I (3 + i) 0 = K 65 (4 * i) ∧ I (3 + i) 1 = K 65 (4 * i + 1) ∧ I (3 + i) 2 = K 65 (4 * i + 2) ∧ I (3 + i) 3 = K 65 (4 * i + 3)) ∧ mbP (K 65 (4 * i)) (K 65 (4 * i + 1)) (K 65 (4 * i + 2)) (K 65 (4 * i + 3))
def WRel (I K : pI) (h b : Nat) : Prop := ∀ k, k < 8 → nib (I h 2) (nI k) = K 67 (b + k)
theorem PRel.congr {I K I' K' : pI} {a P : Nat} (h : PRel I K a P) (h0 : I' a 0 = I a 0) (h1 : I' a 1 = I a 1) (h2 : I' a 2 = I a 2) (k0 : K' 68 P = K 68 P) (k1 : K' 69 P = K 69 P) (k2 : ∀ r, r < 6 → K' 70 (6 * P + r) = K 70 (6 * P + r)) : PRel I' K' a P := by
  obtain ⟨w, q, a1, a2, a3, a4, a5, a6, a7, a8, a9⟩ := h
  exact ⟨w, q, a1, a2, h0.trans a3, k0.trans a4, h1.trans a5, k1.trans a6, fun r hr => by rw [h2, k2 r hr]; exact a7 r hr, by rw [h2]; exact a8, by rw [h2]; exact a9⟩
theorem GRel.congr {I K I' K' : pI} (h : GRel I K) (hI : ∀ i k, i < 40 → I' (3 + i) k = I (3 + i) k) (hK : ∀ k, K' 65 k = K 65 k) : GRel I' K' := by
  intro i hi
  rw [hI i _ hi, hI i _ hi, hI i _ hi, hI i _ hi, hK, hK, hK, hK]
  exact h i hi
theorem GRel.PV {I K : pI} (h : GRel I K) : PV I := by
  intro i hi hk
  obtain ⟨⟨g0, g1, g2, g3⟩, hm⟩ := h i hi
  rw [g0] at hk
  have h39 : isPl (K 65 (4 * i + 3)) := by
    rcases hk with e | e | e <;> (rw [e] at hm; simp (decide := true) only [mbP, if_true, if_false] at hm)
    · exact hm.2.2
    · exact hm.2.2
    · exact hm
  obtain ⟨v, hv, e⟩ := nI_of2 (M := 39) (n := 39) (by decide) (Int32.not_lt.mpr h39.1) h39.2
  exact ⟨v, by omega, by rw [g3, e]⟩
theorem GRel.PR {I K : pI} (h : GRel I K) : PR K := fun i hi => (h i hi).2
theorem PRel.RG {I K : pI} {a P : Nat} (h : PRel I K a P) : RG K P := by
  obtain ⟨w, q, a1, a2, a3, a4, a5, a6, a7, a8, a9⟩ := h
  intro r hr
  obtain ⟨v, hv, e⟩ := nib_rng (I a 2) (nI r)
  exact ⟨v, hv, by rw [← a7 r hr, e]⟩
theorem of_15 {x : Int32} (h : 0 ≤ x ∧ x ≤ 15) : ∃ v, v ≤ 15 ∧ x = nI v := nI_of2 (M := 15) (n := 15) (by decide) (Int32.not_lt.mpr h.1) h.2
/-- registers: one is written on both sides -/
theorem regs_up {x : Int32} {K K' : pI} {P s u : Nat} (h7 : ∀ r, r < 6 → nib x (nI r) = K 70 (6 * P + r)) (h8 : nib x (nI 6) = 0 ∧ nib x (nI 7) = 0) (hs : s ≤ 5) (hu : u < 2 ^ 32) (hK : ∀ k, K' 70 k = if k = 6 * P + s then nI (u % 16) else K 70 k) :
    (∀ r, r < 6 → nib (wnib x (nI s) (nI u)) (nI r) = K' 70 (6 * P + r)) ∧ (nib (wnib x (nI s) (nI u)) (nI 6) = 0 ∧ nib (wnib x (nI s) (nI u)) (nI 7) = 0) := by
  refine ⟨fun r hr => ?_, ?_, ?_⟩
  · rw [hK]
    by_cases e : r = s
    · subst e; rw [if_pos rfl, nib_wnib_s (by omega), and15 u hu]
    · rw [if_neg (by omega), nib_wnib_n (by omega) (by omega) e]; exact h7 r hr
  · rw [nib_wnib_n (by omega) (by decide) (by omega)]; exact h8.1
  · rw [nib_wnib_n (by omega) (by decide) (by omega)]; exact h8.2
theorem i_le15 {v : Nat} (h : v ≤ 15) : nI (v % 16) = nI v := by rw [Nat.mod_eq_of_lt (by omega)]
/-- a free instruction, on both sides: place, registers, door -/
theorem sim_free {I K : pI} {a P q : Nat} (hG : GRel I K) (hq : q < 40) (ha : 43 ≤ a) (hI1 : I a 1 = nI q) (hK1 : K 69 P = nI q) (h7 : ∀ r, r < 6 → nib (I a 2) (nI r) = K 70 (6 * P + r)) (h8 : nib (I a 2) (nI 6) = 0 ∧ nib (I a 2) (nI 7) = 0) :
    (∃ q', q' ≤ 40 ∧ dF I a (3 + q) a 1 = nI q' ∧ frI K P q 69 P = nI q') ∧ (∀ r, r < 6 → nib (dF I a (3 + q) a 2) (nI r) = frI K P q 70 (6 * P + r)) ∧ (nib (dF I a (3 + q) a 2) (nI 6) = 0 ∧ nib (dF I a (3 + q) a 2) (nI 7) = 0) ∧ (XRel I K a P → XRel (dF I a (3 + q)) (frI K P q) a P) := by
  obtain ⟨⟨g0, g1, g2, g3⟩, hm⟩ := hG q hq
  have e1 : I a 1 + 1 = nI (q + 1) := by rw [hI1, nI_1]
  have h39 : ∀ x : Int32, isPl x → ∃ q', q' ≤ 40 ∧ x = nI q' := fun x hx => by
    obtain ⟨v, hv, e⟩ := nI_of2 (M := 39) (n := 39) (by decide) (Int32.not_lt.mpr hx.1) hx.2
    exact ⟨v, by omega, e⟩
  unfold dF frI
  rw [g0, g1, g2, g3, e1]
  by_cases k0 : K 65 (4 * q) = 0
  · simp only [if_pos k0]
    rw [k0] at hm
    simp (decide := true) only [mbP, if_true, if_false] at hm
    obtain ⟨s, hs, es⟩ := of_R hm.1
    obtain ⟨u, hu, eu⟩ := of_15 hm.2
    rw [es, eu, nI_clamp (show s < 2 ^ 31 by omega)]
    have hr := regs_up (K' := upI (upI K 70 (6 * P + s) (nI u)) 69 P (nI (q + 1))) h7 h8 hs (show u < 2 ^ 32 by omega) (fun k => by rw [upI_a (by decide), i_le15 hu]; by_cases e : k = 6 * P + s <;> simp [upI, e])
    refine ⟨⟨q + 1, by omega, upI_s _ _ _ _, upI_s _ _ _ _⟩, ?_, ?_, ?_⟩
    · rw [upI_k (by decide), upI_s]; exact hr.1
    · rw [upI_k (by decide), upI_s]; exact hr.2
    · intro hx; unfold XRel; simp only [upI_k (show (3 : Nat) ≠ 1 by decide), upI_k (show (3 : Nat) ≠ 2 by decide), upI_k (show (4 : Nat) ≠ 1 by decide), upI_k (show (4 : Nat) ≠ 2 by decide), upI_k (show (5 : Nat) ≠ 1 by decide), upI_k (show (5 : Nat) ≠ 2 by decide), upI_a (show (71 : Nat) ≠ 69 by decide), upI_a (show (71 : Nat) ≠ 70 by decide), upI_a (show (72 : Nat) ≠ 69 by decide), upI_a (show (72 : Nat) ≠ 70 by decide), upI_a (show (73 : Nat) ≠ 69 by decide), upI_a (show (73 : Nat) ≠ 70 by decide)]; exact hx
  simp only [if_neg k0]
  by_cases k1 : K 65 (4 * q) = 1
  · simp only [if_pos k1]
    rw [k1] at hm
    simp (decide := true) only [mbP, if_true, if_false] at hm
    obtain ⟨s, hs, es⟩ := of_R hm.1
    obtain ⟨u, hu, eu⟩ := of_15 hm.2
    obtain ⟨v, hv, ev⟩ := nib_rng (I a 2) (nI s)
    rw [es, eu, nI_clamp (show s < 2 ^ 31 by omega), ← h7 s (by omega), ev, nI_add, show (16 : Int32) = nI 16 by decide, pk_rem (by omega) (by decide) (by decide)]
    have hr := regs_up (K' := upI (upI K 70 (6 * P + s) (nI ((v + u) % 16))) 69 P (nI (q + 1))) h7 h8 hs (show v + u < 2 ^ 32 by omega) (fun k => by rw [upI_a (by decide)]; by_cases e : k = 6 * P + s <;> simp [upI, e])
    refine ⟨⟨q + 1, by omega, upI_s _ _ _ _, upI_s _ _ _ _⟩, ?_, ?_, ?_⟩
    · rw [upI_k (by decide), upI_s]; exact hr.1
    · rw [upI_k (by decide), upI_s]; exact hr.2
    · intro hx; unfold XRel; simp only [upI_k (show (3 : Nat) ≠ 1 by decide), upI_k (show (3 : Nat) ≠ 2 by decide), upI_k (show (4 : Nat) ≠ 1 by decide), upI_k (show (4 : Nat) ≠ 2 by decide), upI_k (show (5 : Nat) ≠ 1 by decide), upI_k (show (5 : Nat) ≠ 2 by decide), upI_a (show (71 : Nat) ≠ 69 by decide), upI_a (show (71 : Nat) ≠ 70 by decide), upI_a (show (72 : Nat) ≠ 69 by decide), upI_a (show (72 : Nat) ≠ 70 by decide), upI_a (show (73 : Nat) ≠ 69 by decide), upI_a (show (73 : Nat) ≠ 70 by decide)]; exact hx
  simp only [if_neg k1]
  by_cases k2 : K 65 (4 * q) = 2
  · simp only [if_pos k2]
    rw [k2] at hm
    simp (decide := true) only [mbP, if_true, if_false] at hm
    obtain ⟨s, hs, es⟩ := of_R hm.1
    obtain ⟨u, hu, eu⟩ := of_R hm.2
    obtain ⟨v, hv, ev⟩ := nib_rng (I a 2) (nI u)
    rw [es, eu, nI_clamp (show s < 2 ^ 31 by omega), nI_clamp (show u < 2 ^ 31 by omega), ← h7 u (by omega), ev]
    have hr := regs_up (K' := upI (upI K 70 (6 * P + s) (nI v)) 69 P (nI (q + 1))) h7 h8 hs (show v < 2 ^ 32 by omega) (fun k => by rw [upI_a (by decide), i_le15 hv]; by_cases e : k = 6 * P + s <;> simp [upI, e])
    refine ⟨⟨q + 1, by omega, upI_s _ _ _ _, upI_s _ _ _ _⟩, ?_, ?_, ?_⟩
    · rw [upI_k (by decide), upI_s]; exact hr.1
    · rw [upI_k (by decide), upI_s]; exact hr.2
    · intro hx; unfold XRel; simp only [upI_k (show (3 : Nat) ≠ 1 by decide), upI_k (show (3 : Nat) ≠ 2 by decide), upI_k (show (4 : Nat) ≠ 1 by decide), upI_k (show (4 : Nat) ≠ 2 by decide), upI_k (show (5 : Nat) ≠ 1 by decide), upI_k (show (5 : Nat) ≠ 2 by decide), upI_a (show (71 : Nat) ≠ 69 by decide), upI_a (show (71 : Nat) ≠ 70 by decide), upI_a (show (72 : Nat) ≠ 69 by decide), upI_a (show (72 : Nat) ≠ 70 by decide), upI_a (show (73 : Nat) ≠ 69 by decide), upI_a (show (73 : Nat) ≠ 70 by decide)]; exact hx
  simp only [if_neg k2]
  have keep : ∀ z : Int32, (∃ q', q' ≤ 40 ∧ z = nI q') → ((∃ q', q' ≤ 40 ∧ upI I a 1 z a 1 = nI q' ∧ upI K 69 P z 69 P = nI q') ∧ (∀ r, r < 6 → nib (upI I a 1 z a 2) (nI r) = upI K 69 P z 70 (6 * P + r)) ∧ (nib (upI I a 1 z a 2) (nI 6) = 0 ∧ nib (upI I a 1 z a 2) (nI 7) = 0) ∧ (XRel I K a P → XRel (upI I a 1 z) (upI K 69 P z) a P)) := by
    intro z hz
    obtain ⟨q', h1, h2⟩ := hz
    refine ⟨⟨q', h1, by rw [upI_s, h2], by rw [upI_s, h2]⟩, ?_, ?_, ?_⟩
    · intro r hr; rw [upI_k (by decide), upI_a (by decide)]; exact h7 r hr
    · rw [upI_k (by decide)]; exact h8
    · intro hx; unfold XRel; simp only [upI_k (show (3 : Nat) ≠ 1 by decide), upI_k (show (4 : Nat) ≠ 1 by decide), upI_k (show (5 : Nat) ≠ 1 by decide), upI_a (show (71 : Nat) ≠ 69 by decide), upI_a (show (72 : Nat) ≠ 69 by decide), upI_a (show (73 : Nat) ≠ 69 by decide)]; exact hx
  by_cases k3 : K 65 (4 * q) = 3
  · simp only [if_pos k3]
    rw [k3] at hm
    simp (decide := true) only [mbP, if_true, if_false] at hm
    obtain ⟨s, hs, es⟩ := of_R hm.1
    obtain ⟨u, hu, eu⟩ := of_R hm.2.1
    rw [es, eu, nI_clamp (show s < 2 ^ 31 by omega), nI_clamp (show u < 2 ^ 31 by omega), ← h7 u (by omega), ← h7 s (by omega)]
    refine keep _ ?_
    split
    · exact h39 _ hm.2.2
    · exact ⟨q + 1, by omega, rfl⟩
  simp only [if_neg k3]
  by_cases k4 : K 65 (4 * q) = 4
  · simp only [if_pos k4]
    rw [k4] at hm
    simp (decide := true) only [mbP, if_true, if_false] at hm
    obtain ⟨s, hs, es⟩ := of_R hm.1
    obtain ⟨u, hu, eu⟩ := of_R hm.2.1
    rw [es, eu, nI_clamp (show s < 2 ^ 31 by omega), nI_clamp (show u < 2 ^ 31 by omega), ← h7 u (by omega), ← h7 s (by omega)]
    refine keep _ ?_
    split
    · exact h39 _ hm.2.2
    · exact ⟨q + 1, by omega, rfl⟩
  simp only [if_neg k4]
  by_cases k5 : K 65 (4 * q) = 5
  · simp only [if_pos k5]
    rw [k5] at hm
    simp (decide := true) only [mbP, if_true, if_false] at hm
    exact keep _ (h39 _ hm)
  simp only [if_neg k5]
  by_cases k6 : K 65 (4 * q) = 6
  · simp only [if_pos k6]
    refine ⟨⟨q + 1, by omega, upI_s _ _ _ _, upI_s _ _ _ _⟩, ?_, ?_, ?_⟩
    · intro r hr; rw [upI_k (by decide), upI_k (by decide), upI_k (by decide), upI_a (by decide), upI_a (by decide), upI_a (by decide)]; exact h7 r hr
    · rw [upI_k (by decide), upI_k (by decide), upI_k (by decide)]; exact h8
    · intro hx
      refine ⟨by simp [upI], by simp [upI], by simp [upI], ?_⟩
      rw [upI_k (by decide), upI_k (by decide), upI_k (by decide), upI_a (by decide), upI_a (by decide), upI_a (by decide)]
      exact hx.2.2.2
  simp only [if_neg k6]
  exact keep _ ⟨q + 1, by omega, rfl⟩
