/-! what a move of the judge's leaves alone, on both sides -/
theorem adL_o {h p c a k : Nat} (ha : a ≠ h + 2 + p) (hh : a ≠ h ∨ k ≠ 2) (h4 : k ≠ 4 ∨ a < h + 2 ∨ h + 5 ≤ a) (hc : c ≤ 3) : ∀ (m : Nat) (I : pI), adL h p c m I a k = I a k := by
  intro m
  induction m with
  | zero => intro I; exact upI_a ha
  | succ m ih =>
    intro I
    rw [adL]
    split
    · exact upI_a ha
    split
    · unfold endI; rw [upI_a ha, upI_a ha, upI_a ha, upI_a ha]
    split
    · have e : enL h c 0 (enA I (h + 2 + p)) a k = enA I (h + 2 + p) a k := by
        rcases h4 with h4 | h4
        · exact enL_k h4 _ _ _
        · exact enL_x _ _ _ (by omega)
      rw [e]; unfold enA; rw [upI_a ha, upI_a ha, upI_a ha]
    split
    · exact dS_o ha hh
    · rw [ih]
      split
      · rfl
      · exact dF_o ha
theorem mvA_o {I : pI} {h p c a k : Nat} (ha : a ≠ h + 2 + p) (hh : a ≠ h ∨ k ≠ 2) (h4 : k ≠ 4 ∨ a < h + 2 ∨ h + 5 ≤ a) (hc : c ≤ 3) : mvA I h p c a k = I a k := by
  unfold mvA
  split
  · rfl
  · unfold adv; rw [adL_o ha hh h4 hc, upI_a ha, mvB_o ha]
/-- in the reference: only P's own entries and the judge's words -/
def FP (P : Nat) (K K' : pI) : Prop := (∀ a k, a < 67 ∨ 73 < a → K' a k = K a k) ∧ (∀ k, k < 8 → K' 67 k = K 67 k) ∧ (∀ a P', 68 ≤ a → a ≤ 73 → a ≠ 70 → P' ≠ P → K' a P' = K a P') ∧ (∀ k, k < 6 * P ∨ 6 * P + 6 ≤ k → K' 70 k = K 70 k)
theorem FP.rf {P : Nat} {K : pI} : FP P K K := ⟨fun _ _ _ => rfl, fun _ _ => rfl, fun _ _ _ _ _ _ => rfl, fun _ _ => rfl⟩
theorem FP.tr {P : Nat} {K K' K'' : pI} (h : FP P K K') (h' : FP P K' K'') : FP P K K'' :=
  ⟨fun a k ha => (h'.1 a k ha).trans (h.1 a k ha), fun k hk => (h'.2.1 k hk).trans (h.2.1 k hk), fun a Q h1 h2 h3 h4 => (h'.2.2.1 a Q h1 h2 h3 h4).trans (h.2.2.1 a Q h1 h2 h3 h4), fun k hk => (h'.2.2.2 k hk).trans (h.2.2.2 k hk)⟩
theorem FP.up {P a : Nat} {K K' : pI} {v : Int32} (h0 : FP P K K') (h1 : 68 ≤ a) (h2 : a ≤ 73) (h3 : a ≠ 70) : FP P K (upI K' a P v) :=
  h0.tr ⟨fun a' k h => upI_a (by omega), fun k _ => upI_a (by omega), fun a' P' _ _ _ h => upI_k h, fun k _ => upI_a (by omega)⟩
theorem FP.re {P : Nat} {K : pI} : FP P K (reI K P) :=
  ⟨fun a k h => reI_o (by omega) (by omega) (by omega), fun k _ => reI_o (by decide) (by decide) (by decide), fun a P' _ _ h3 h => reI_P h3 h, fun k h => reI_70 h⟩
theorem FP.at {P : Nat} {K : pI} {v : Int32} : FP P K (atI K P v) :=
  ⟨fun a k h => atI_o (by omega), fun k _ => atI_o (by decide), fun a P' _ _ h3 h => atI_P h3 h, fun k h => atI_70 h⟩
theorem FP.fr {P q : Nat} {K : pI} (hm : mbP (K 65 (4 * q)) (K 65 (4 * q + 1)) (K 65 (4 * q + 2)) (K 65 (4 * q + 3))) : FP P K (frI K P q) :=
  ⟨fun a k h => frI_o (by omega) (by omega) (by omega) (by omega), fun k _ => frI_o (by decide) (by decide) (by decide) (by decide), fun a P' _ _ h3 h => frI_P h3 h, fun k h => frI_70 hm h⟩
theorem FP.er {P c : Nat} {K : pI} : FP P K (erW K P 8 c) := by
  unfold erW erA
  rw [if_neg (by decide)]
  exact ((FP.rf.up (by decide) (by decide) (by decide)).up (by decide) (by decide) (by decide)).up (by decide) (by decide) (by decide)
theorem FP.sr {P q : Nat} {K : pI} (hp : P < 6) (hR : RG K P) (hk : 7 ≤ K 65 (4 * q)) (hk2 : K 65 (4 * q) ≤ 11) (hm : mbP (K 65 (4 * q)) (K 65 (4 * q + 1)) (K 65 (4 * q + 2)) (K 65 (4 * q + 3))) : FP P K (srI K P q 8) := by
  obtain ⟨w, hw, ew, hA⟩ := wr_ok (b := 8) hp hR hk hk2 hm (by decide)
  refine ⟨fun a k h => srI_o (by omega) (by omega) (Or.inl (by omega)), fun k hk => ?_, fun a P' h1 h2 h3 h => srI_o (by omega) h3 (Or.inr h), fun k h => srI_70 hA h⟩
  have hkw : k ≠ (wrI K P q 8).toNatClampNeg := by rw [ew, nI_clamp (by omega)]; omega
  unfold srI srM
  rw [upI_a (by decide)]
  repeat' split
  all_goals simp [upI_k hkw, upI_a (show (67 : Nat) ≠ 70 by decide)]
theorem FP.wk {P c : Nat} (hp : P < 6) : ∀ (m : Nat) (K : pI), PR K → (∃ q, q ≤ 40 ∧ K 69 P = nI q) → RG K P → FP P K (wkL P 8 c m K) := by
  intro m
  induction m with
  | zero =>
    intro K hPR hpl hR
    obtain ⟨q, hq40, hq⟩ := hpl
    rw [wkL, wkH]
    split
    · exact FP.rf.up (by decide) (by decide) (by decide)
    rename_i h20
    have hq2 : q < 40 := by
      rw [hq] at h20
      exact Nat.lt_of_not_le (fun z => h20 (nI_le (a := 40) z (by omega)))
    rw [show (K 69 P).toNatClampNeg = q by rw [hq, nI_clamp (by omega)]]
    split
    · exact FP.re.up (by decide) (by decide) (by decide)
    split
    · exact FP.er
    split
    · rename_i h; exact FP.sr hp hR (i6 (Int32.not_le.mpr h.1)) (i12 (Int32.not_le.mpr h.2)) (hPR q hq2)
    · exact FP.rf.up (by decide) (by decide) (by decide)
  | succ m ih =>
    intro K hPR hpl hR
    obtain ⟨q, hq40, hq⟩ := hpl
    rw [wkL, wkH]
    split
    · exact FP.rf.up (by decide) (by decide) (by decide)
    rename_i h20
    have hq2 : q < 40 := by
      rw [hq] at h20
      exact Nat.lt_of_not_le (fun z => h20 (nI_le (a := 40) z (by omega)))
    rw [show (K 69 P).toNatClampNeg = q by rw [hq, nI_clamp (by omega)]]
    split
    · exact FP.re.up (by decide) (by decide) (by decide)
    split
    · exact FP.er
    split
    · rename_i h; exact FP.sr hp hR (i6 (Int32.not_le.mpr h.1)) (i12 (Int32.not_le.mpr h.2)) (hPR q hq2)
    · refine (FP.fr (hPR q hq2)).tr (ih _ (fun i hi => ?_) (frI_pl hPR hq2) (frI_RG hPR hq2 hR))
      rw [frI_o (by decide) (by decide) (by decide) (by decide), frI_o (by decide) (by decide) (by decide) (by decide), frI_o (by decide) (by decide) (by decide) (by decide), frI_o (by decide) (by decide) (by decide) (by decide)]
      exact hPR i hi
theorem PR.congr {K K' : pI} (h : PR K) (h65 : ∀ k, K' 65 k = K 65 k) : PR K' := fun i hi => by rw [h65, h65, h65, h65]; exact h i hi
theorem FP.mo {P c : Nat} {K : pI} (hp : P < 6) (hc : c ≤ 3) (hPR : PR K) (hpl : ∃ q, q ≤ 40 ∧ K 69 P = nI q) (hR : RG K P) (hI : K 64 2 = nI c) (h3 : 3 ≤ P) : FP P K (moI K P 8 c) := by
  have wk : ∀ X : pI, FP P K X → PR X → (∃ q, q ≤ 40 ∧ X 69 P = nI q) → RG X P → FP P K (wkI X P 8 c) := by
    intro X hX h1 h2 h4
    refine hX.tr ((FP.rf.up (a := 73) (v := X 73 P + 1) (by decide) (by decide) (by decide)).tr ?_)
    exact FP.wk hp 60 _ (h1.congr (fun k => upI_a (by decide))) (by rw [upI_a (by decide)]; exact h2) (RG_o (by decide) h4)
  unfold moI
  split
  · exact FP.rf
  have e3 : nI P - (3 : Int32) = nI (P - 3) := pk_sub (b := 3) h3
  have sv : ∀ X : pI, FP P K X → PR X → (∃ q, q ≤ 40 ∧ X 69 P = nI q) → RG X P → FP P K (wkI (mvS X P) P 8 c) := by
    intro X hX h1 h2 h4
    unfold mvS
    split
    · exact wk _ (hX.up (by decide) (by decide) (by decide)) (h1.congr (fun k => upI_a (by decide))) (by rw [upI_a (by decide)]; exact h2) (RG_o (by decide) h4)
    · exact wk _ hX h1 h2 h4
  unfold mvR
  split
  · exact sv _ FP.at (hPR.congr (fun k => atI_o (by decide))) ⟨0, by decide, atI_pl⟩ (atI_RG (by rw [if_neg (by decide), e3]; exact ⟨P - 3, by omega, rfl⟩) ⟨c, by omega, hI⟩)
  · exact sv _ FP.rf hPR hpl hR
