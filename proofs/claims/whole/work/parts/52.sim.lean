/-! a shared instruction, on both sides -/
theorem words_up {x : Int32} {K K' : pI} {b s u : Nat} (hW : ∀ k, k < 8 → nib x (nI k) = K 67 (b + k)) (hs : s ≤ 7) (hu : u < 2 ^ 32) (hK : ∀ k, K' 67 k = if k = b + s then nI (u % 16) else K 67 k) : ∀ k, k < 8 → nib (wnib x (nI s) (nI u)) (nI k) = K' 67 (b + k) := by
  intro k hk
  rw [hK]
  by_cases e : k = s
  · subst e; rw [if_pos rfl, nib_wnib_s (by omega), and15 u hu]
  · rw [if_neg (by omega), nib_wnib_n (by omega) (by omega) e]; exact hW k hk
/-- which word: alike -/
theorem at_wr {I K : pI} {a P q b k : Nat} (hG : GRel I K) (hq : q < 40) (h7 : ∀ r, r < 6 → nib (I a 2) (nI r) = K 70 (6 * P + r)) (ek : K 65 (4 * q) = nI k) (hk7 : 7 ≤ k) (hk11 : k ≤ 11) : ∃ w, w ≤ 7 ∧ atS I a (3 + q) = nI w ∧ wrI K P q b = nI (b + w) := by
  obtain ⟨⟨g0, g1, g2, g3⟩, hm⟩ := hG q hq
  have hb : 0 ≤ K 65 (4 * q + 2) ∧ K 65 (4 * q + 2) ≤ 7 := by
    rw [ek] at hm
    rcases (show k = 7 ∨ k = 8 ∨ k = 9 ∨ k = 10 ∨ k = 11 by omega) with rfl | rfl | rfl | rfl | rfl <;>
      (simp (decide := true) only [mbP, if_true, if_false] at hm; exact hm.2.1)
  obtain ⟨u, hu, eu⟩ := i7 hb
  unfold atS wrI mrI
  rw [g0, g2, g3, ek, eu]
  by_cases h9 : k ≤ 9
  · have n9 : ¬ (9 : Int32) < nI k := fun z => absurd ((nI_ltI (a := 9) (b := k) (by decide) (by omega)).mp z) (by omega)
    by_cases h6 : K 65 (4 * q + 3) = 6
    · rw [if_neg (fun z => z.2 h6), if_pos (Or.inr h6)]
      refine ⟨u, hu, rfl, ?_⟩
      rw [show nI u + (0 : Int32) = nI u by rw [show (0 : Int32) = nI 0 from rfl, nI_add, Nat.add_zero], show (8 : Int32) = nI 8 by decide, pk_rem (by omega) (by decide) (by decide), nI_add, Nat.mod_eq_of_lt (by omega)]
    · have hd : 0 ≤ K 65 (4 * q + 3) ∧ K 65 (4 * q + 3) ≤ 6 := by
        rw [ek] at hm
        rcases (show k = 7 ∨ k = 8 ∨ k = 9 by omega) with rfl | rfl | rfl <;> (simp (decide := true) only [mbP, if_true, if_false] at hm; exact hm.2.2)
      obtain ⟨d, hd6, ed⟩ := nI_of2 (M := 6) (n := 6) (by decide) (Int32.not_lt.mpr hd.1) hd.2
      rw [ed] at h6 ⊢
      have hd5 : d < 6 := by
        rcases (show d < 6 ∨ d = 6 by omega) with h | h
        · exact h
        · exact absurd (by rw [h]; rfl) h6
      obtain ⟨v, hv, ev⟩ := nib_rng (I a 2) (nI d)
      rw [if_pos ⟨nI_le (b := 9) h9 (by decide), h6⟩, if_neg (fun z => z.elim n9 h6), nI_clamp (show d < 2 ^ 31 by omega), ← h7 d hd5, ev, nI_add, show (8 : Int32) = nI 8 by decide, pk_rem (by omega) (by decide) (by decide)]
      exact ⟨(u + v) % 8, by omega, rfl, by rw [nI_add]⟩
  · have p9 : (9 : Int32) < nI k := nI_lt (a := 9) (by omega) (by omega)
    rw [if_neg (fun z => absurd z.1 (Int32.not_le.mpr p9)), if_pos (Or.inl p9)]
    refine ⟨u, hu, rfl, ?_⟩
    rw [show nI u + (0 : Int32) = nI u by rw [show (0 : Int32) = nI 0 from rfl, nI_add, Nat.add_zero], show (8 : Int32) = nI 8 by decide, pk_rem (by omega) (by decide) (by decide), nI_add, Nat.mod_eq_of_lt (by omega)]
theorem sim_share {I K : pI} {h a P q b k : Nat} (hG : GRel I K) (hq : q < 40) (hah : a ≠ h) (hI1 : I a 1 = nI q) (h7 : ∀ r, r < 6 → nib (I a 2) (nI r) = K 70 (6 * P + r)) (h8 : nib (I a 2) (nI 6) = 0 ∧ nib (I a 2) (nI 7) = 0) (hW : WRel I K h b) (ek : K 65 (4 * q) = nI k) (hk7 : 7 ≤ k) (hk11 : k ≤ 11) (hb8 : b ≤ 8) :
    (dS I h a (3 + q) a 1 = nI (q + 1) ∧ srI K P q b 69 P = nI (q + 1)) ∧ (∀ r, r < 6 → nib (dS I h a (3 + q) a 2) (nI r) = srI K P q b 70 (6 * P + r)) ∧ (nib (dS I h a (3 + q) a 2) (nI 6) = 0 ∧ nib (dS I h a (3 + q) a 2) (nI 7) = 0) ∧ WRel (dS I h a (3 + q)) (srI K P q b) h b := by
  obtain ⟨w, hw7, ew, ew'⟩ := at_wr (b := b) hG hq h7 ek hk7 hk11
  obtain ⟨⟨g0, g1, g2, g3⟩, hm⟩ := hG q hq
  have hA : isR (K 65 (4 * q + 1)) := by
    rw [ek] at hm
    rcases (show k = 7 ∨ k = 8 ∨ k = 9 ∨ k = 10 ∨ k = 11 by omega) with rfl | rfl | rfl | rfl | rfl <;>
      (simp (decide := true) only [mbP, if_true, if_false] at hm; exact hm.1)
  obtain ⟨s, hs, es⟩ := of_R hA
  obtain ⟨v, hv, ev⟩ := nib_rng (I h 2) (nI w)
  obtain ⟨u, hu, eu⟩ := nib_rng (I a 2) (nI s)
  have hKw : K 67 (b + w) = nI v := by rw [← hW w (by omega), ev]
  have hKs : K 70 (6 * P + s) = nI u := by rw [← h7 s (by omega), eu]
  refine ⟨⟨by unfold dS; rw [upI_s, hI1, nI_1], by unfold srI; exact upI_s _ _ _ _⟩, ?_⟩
  -- the place apart
  have pl : ∀ (I' K' : pI), ((∀ r, r < 6 → nib (I' a 2) (nI r) = K' 70 (6 * P + r)) ∧ (nib (I' a 2) (nI 6) = 0 ∧ nib (I' a 2) (nI 7) = 0) ∧ WRel I' K' h b) → ((∀ r, r < 6 → nib (upI I' a 1 (I a 1 + 1) a 2) (nI r) = upI K' 69 P (nI (q + 1)) 70 (6 * P + r)) ∧ (nib (upI I' a 1 (I a 1 + 1) a 2) (nI 6) = 0 ∧ nib (upI I' a 1 (I a 1 + 1) a 2) (nI 7) = 0) ∧ WRel (upI I' a 1 (I a 1 + 1)) (upI K' 69 P (nI (q + 1))) h b) := by
    intro I' K' hh
    refine ⟨fun r hr => by rw [upI_k (by decide), upI_a (by decide)]; exact hh.1 r hr, by rw [upI_k (by decide)]; exact hh.2.1, fun k hk => ?_⟩
    rw [upI_a (Ne.symm hah), upI_a (by decide)]
    exact hh.2.2 k hk
  unfold dS srI
  refine pl _ _ ?_
  unfold dSm srM
  rw [g0, g1, g3, ew, ew', es, nI_clamp (show s < 2 ^ 31 by omega), nI_clamp (show b + w < 2 ^ 31 by omega), ev, eu, hKw, hKs]
  have rr : ∀ (z : Nat) (K' : pI), z < 2 ^ 32 → (∀ k, K' 70 k = if k = 6 * P + s then nI (z % 16) else K 70 k) → (∀ r, r < 6 → nib (wnib (I a 2) (nI s) (nI z)) (nI r) = K' 70 (6 * P + r)) ∧ (nib (wnib (I a 2) (nI s) (nI z)) (nI 6) = 0 ∧ nib (wnib (I a 2) (nI s) (nI z)) (nI 7) = 0) := fun z K' hz hK => regs_up h7 h8 hs hz hK
  by_cases k7 : K 65 (4 * q) = 7
  · simp only [if_pos k7]
    have hr := rr v (upI K 70 (6 * P + s) (nI v)) (by omega) (fun k => by rw [i_le15 hv]; by_cases e : k = 6 * P + s <;> simp [upI, e])
    refine ⟨by rw [upI_s]; exact hr.1, by rw [upI_s]; exact hr.2, fun k hk => ?_⟩
    rw [upI_a (Ne.symm hah), upI_a (by decide)]; exact hW k hk
  simp only [if_neg k7]
  by_cases k8 : K 65 (4 * q) = 8
  · simp only [if_pos k8]
    have hw := words_up (K' := upI K 67 (b + w) (nI u)) hW hw7 (show u < 2 ^ 32 by omega) (fun k => by rw [i_le15 hu]; by_cases e : k = b + w <;> simp [upI, e])
    refine ⟨fun r hr => by rw [upI_a hah, upI_a (by decide)]; exact h7 r hr, by rw [upI_a hah]; exact h8, fun k hk => ?_⟩
    rw [upI_s]; exact hw k hk
  simp only [if_neg k8]
  by_cases k9 : K 65 (4 * q) = 9
  · simp only [if_pos k9]
    have hw := words_up (K' := upI (upI K 67 (b + w) (nI u)) 70 (6 * P + s) (nI v)) hW hw7 (show u < 2 ^ 32 by omega) (fun k => by rw [upI_a (by decide), i_le15 hu]; by_cases e : k = b + w <;> simp [upI, e])
    have hr := rr v (upI (upI K 67 (b + w) (nI u)) 70 (6 * P + s) (nI v)) (by omega) (fun k => by rw [i_le15 hv]; by_cases e : k = 6 * P + s <;> simp [upI, e])
    refine ⟨by rw [upI_s]; exact hr.1, by rw [upI_s]; exact hr.2, fun k hk => ?_⟩
    rw [upI_a (Ne.symm hah), upI_s]; exact hw k hk
  simp only [if_neg k9]
  by_cases k10 : K 65 (4 * q) = 10
  · simp only [if_pos k10]
    rw [k10] at hm
    simp (decide := true) only [mbP, if_true, if_false] at hm
    obtain ⟨d, hd, ed⟩ := of_15 hm.2.2
    rw [ed, nI_add, show (16 : Int32) = nI 16 by decide, pk_rem (by omega) (by decide) (by decide)]
    have hw := words_up (K' := upI (upI K 67 (b + w) (nI ((v + d) % 16))) 70 (6 * P + s) (nI v)) hW hw7 (show v + d < 2 ^ 32 by omega) (fun k => by rw [upI_a (by decide)]; by_cases e : k = b + w <;> simp [upI, e])
    have hr := rr v (upI (upI K 67 (b + w) (nI ((v + d) % 16))) 70 (6 * P + s) (nI v)) (by omega) (fun k => by rw [i_le15 hv]; by_cases e : k = 6 * P + s <;> simp [upI, e])
    refine ⟨by rw [upI_s]; exact hr.1, by rw [upI_s]; exact hr.2, fun k hk => ?_⟩
    rw [upI_a (Ne.symm hah), upI_s]; exact hw k hk
  simp only [if_neg k10]
  have k11 : k = 11 := by
    rcases (show k = 7 ∨ k = 8 ∨ k = 9 ∨ k = 10 ∨ k = 11 by omega) with rfl | rfl | rfl | rfl | rfl
    · exact absurd ek k7
    · exact absurd ek k8
    · exact absurd ek k9
    · exact absurd ek k10
    · rfl
  rw [ek, k11] at hm
  simp (decide := true) only [mbP, if_true, if_false] at hm
  obtain ⟨d, hd, ed⟩ := of_R hm.2.2
  obtain ⟨x, hx, ex⟩ := nib_rng (I a 2) (nI d)
  have hKd : K 70 (6 * P + d) = nI x := by rw [← h7 d (by omega), ex]
  rw [ed, nI_clamp (show d < 2 ^ 31 by omega), ex, hKd]
  by_cases e9 : nI v = nI u
  · simp only [if_pos e9]
    have hw := words_up (K' := upI (upI K 67 (b + w) (nI x)) 70 (6 * P + s) 1) hW hw7 (show x < 2 ^ 32 by omega) (fun k => by rw [upI_a (by decide), i_le15 hx]; by_cases e : k = b + w <;> simp [upI, e])
    have hr := rr 1 (upI (upI K 67 (b + w) (nI x)) 70 (6 * P + s) 1) (by decide) (fun k => by by_cases e : k = 6 * P + s <;> simp [upI, e, nI])
    refine ⟨by rw [upI_s]; exact hr.1, by rw [upI_s]; exact hr.2, fun k hk => ?_⟩
    rw [upI_a (Ne.symm hah), upI_s]; exact hw k hk
  · simp only [if_neg e9]
    have hr := rr 0 (upI (upI K 67 (b + w) (nI v)) 70 (6 * P + s) 0) (by decide) (fun k => by by_cases e : k = 6 * P + s <;> simp [upI, e, nI])
    refine ⟨by rw [upI_s]; exact hr.1, by rw [upI_s]; exact hr.2, fun k hk => ?_⟩
    rw [upI_a (Ne.symm hah), upI_s, upI_a (by decide)]
    by_cases e : k = w
    · subst e; rw [upI_s, ev]
    · rw [upI_k (by omega)]; exact hW k hk
