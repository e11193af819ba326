/-! a step, and a move, on both sides -/
theorem HB.h {h b o : Nat} (hB : HB h b o) : h = 43 ∨ h = 50 := by rcases hB with ⟨e, -, -⟩ | ⟨e, -, -⟩ <;> simp [e]
theorem sim_shr {I K : pI} {h b o c p q k w : Nat} (hB : HB h b o) (hp : p < 3) (h0 : HRel I K h b o c) (hq : q < 40) (a3 : I (h + 2 + p) 0 = nI w) (a4 : K 68 (o + p) = nI w) (a5 : I (h + 2 + p) 1 = nI q) (a7 : ∀ r, r < 6 → nib (I (h + 2 + p) 2) (nI r) = K 70 (6 * (o + p) + r)) (a8 : nib (I (h + 2 + p) 2) (nI 6) = 0 ∧ nib (I (h + 2 + p) 2) (nI 7) = 0) (ek : K 65 (4 * q) = nI k) (hk7 : 7 ≤ k) (hk11 : k ≤ 11) (hm : mbP (K 65 (4 * q)) (K 65 (4 * q + 1)) (K 65 (4 * q + 2)) (K 65 (4 * q + 3))) (hw : I (h + 2 + p) 0 = nI 1 ∨ I (h + 2 + p) 0 = nI 3) : HRel (dS I h (h + 2 + p) (3 + q)) (srI K (o + p) q b) h b o c := by
  have hh := hB.h
  have hb8 : b ≤ 8 := by rcases hB with ⟨-, e, -⟩ | ⟨-, e, -⟩ <;> omega
  have hA : isR (K 65 (4 * q + 1)) := by
    rw [ek] at hm
    rcases (show k = 7 ∨ k = 8 ∨ k = 9 ∨ k = 10 ∨ k = 11 by omega) with rfl | rfl | rfl | rfl | rfl <;>
      (simp (decide := true) only [mbP, if_true, if_false] at hm; exact hm.1)
  obtain ⟨⟨f1, f2⟩, f3, f4, f5⟩ := sim_share (h := h) (a := h + 2 + p) (P := o + p) (b := b) h0.2.2.1 hq (by omega) a5 a7 a8 h0.2.1 ek hk7 hk11 hb8
  refine h0.step hB hp (fun x k h1 h2 => dS_o h1 h2) (fun k => ⟨srI_o (by decide) (by decide) (Or.inl (by decide)), srI_o (by decide) (by decide) (Or.inl (by decide))⟩) (fun P' hP => ⟨srI_o (by decide) (by decide) (Or.inl (by decide)), srI_o (by decide) (by decide) (Or.inr hP), srI_o (by decide) (by decide) (Or.inl (by decide)), srI_o (by decide) (by decide) (Or.inl (by decide)), srI_o (by decide) (by decide) (Or.inl (by decide))⟩) (fun k hk => srI_70 hA hk) ?_ f5 ?_
  · rcases hw with e | e
    · have ew : w = 1 ∨ True := Or.inr trivial
      refine ⟨1, q + 1, by decide, by omega, by rw [dS_k (by omega) (by decide) (by decide)]; exact e, ?_, f1, f2, f3, f4, fun z => absurd z (by decide)⟩
      rw [srI_o (by decide) (by decide) (Or.inl (by decide)), a4, ← a3]; exact e
    · refine ⟨3, q + 1, by decide, by omega, by rw [dS_k (by omega) (by decide) (by decide)]; exact e, ?_, f1, f2, f3, f4, fun z => absurd z (by decide)⟩
      rw [srI_o (by decide) (by decide) (Or.inl (by decide)), a4, ← a3]; exact e
  · intro hb
    obtain ⟨x1, x2, x3, x4⟩ := h0.2.2.2.2.2 hb p hp
    exact ⟨by rw [dS_k (by omega) (by decide) (by decide), srI_o (by decide) (by decide) (Or.inl (by decide))]; exact x1, by rw [dS_k (by omega) (by decide) (by decide)]; exact x2, by rw [dS_k (by omega) (by decide) (by decide), srI_o (by decide) (by decide) (Or.inl (by decide))]; exact x3, by rw [dS_k (by omega) (by decide) (by decide), srI_o (by decide) (by decide) (Or.inl (by decide))]; exact x4⟩
theorem sim_loop {h b o c p : Nat} (hB : HB h b o) (hp : p < 3) (hc : c ≤ 3) : ∀ (m : Nat) (I K : pI), HRel I K h b o c → (I (h + 2 + p) 0 = nI 1 ∨ I (h + 2 + p) 0 = nI 3) → HRel (adL h p c (m + 1) I) (wkL (o + p) b c m K) h b o c := by
  have hh := hB.h
  have hb8 : b ≤ 8 := by rcases hB with ⟨-, e, -⟩ | ⟨-, e, -⟩ <;> omega
  intro m
  induction m with
  | zero =>
    intro I K h0 hw
    obtain ⟨w, q, a1, a2, a3, a4, a5, a6, a7, a8, a9⟩ := h0.1 p hp
    have hw' : ∃ w, w ≠ 0 ∧ I (h + 2 + p) 0 = nI w ∧ w ≤ 4 := by
      rcases hw with e | e
      · exact ⟨1, by decide, e, by decide⟩
      · exact ⟨3, by decide, e, by decide⟩
    have e13 : I (h + 2 + p) 0 = K 68 (o + p) := a3.trans a4.symm
    rw [adL, wkL, wkH, a5, a6]
    by_cases h40 : (40 : Int32) ≤ nI q
    · rw [if_pos h40, if_pos h40]; exact sim_lost h0 hB hp hw'
    have hq : q < 40 := Nat.lt_of_not_le (fun z => h40 (nI_le (a := 40) z (by omega)))
    obtain ⟨⟨g0, g1, g2, g3⟩, hm⟩ := h0.2.2.1 q hq
    obtain ⟨k, hk13, ek⟩ := mb_k hm
    rw [if_neg h40, if_neg h40, nI_clamp (show q < 2 ^ 31 by omega), g0]
    by_cases k13 : K 65 (4 * q) = 13
    · rw [if_pos k13, if_pos k13]; exact sim_done h0 hB hp
    rw [if_neg k13, if_neg k13, ← e13]
    by_cases k12 : K 65 (4 * q) = 12 ∧ I (h + 2 + p) 0 = 1
    · rw [if_pos k12, if_pos k12]; exact sim_enter h0 hB hp hc ⟨q, hq, a5⟩
    rw [if_neg k12, if_neg k12]
    by_cases ks : 7 ≤ k ∧ k ≤ 11
    · rw [ek, if_pos ⟨nI_le (a := 7) ks.1 (by omega), nI_le (b := 11) ks.2 (by decide)⟩, if_pos ⟨nI_lt (a := 6) (by omega) (by omega), nI_lt (b := 12) (by omega) (by decide)⟩]
      exact sim_shr hB hp h0 hq a3 a4 a5 a7 a8 ek ks.1 ks.2 hm hw
    · rw [ek, if_neg (fun z => ks ⟨(nI_leI (a := 7) (by decide) (by omega)).mp z.1, (nI_leI (b := 11) (by omega) (by decide)).mp z.2⟩), if_pos rfl, if_neg (fun z => ks ⟨(nI_ltI (a := 6) (by decide) (by omega)).mp z.1, Nat.le_of_lt_succ ((nI_ltI (b := 12) (by omega) (by decide)).mp z.2)⟩), adL]
      exact sim_lost h0 hB hp hw'
  | succ m ih =>
    intro I K h0 hw
    obtain ⟨w, q, a1, a2, a3, a4, a5, a6, a7, a8, a9⟩ := h0.1 p hp
    have hw' : ∃ w, w ≠ 0 ∧ I (h + 2 + p) 0 = nI w ∧ w ≤ 4 := by
      rcases hw with e | e
      · exact ⟨1, by decide, e, by decide⟩
      · exact ⟨3, by decide, e, by decide⟩
    have e13 : I (h + 2 + p) 0 = K 68 (o + p) := a3.trans a4.symm
    rw [adL, wkL, wkH, a5, a6]
    by_cases h40 : (40 : Int32) ≤ nI q
    · rw [if_pos h40, if_pos h40]; exact sim_lost h0 hB hp hw'
    have hq : q < 40 := Nat.lt_of_not_le (fun z => h40 (nI_le (a := 40) z (by omega)))
    obtain ⟨⟨g0, g1, g2, g3⟩, hm⟩ := h0.2.2.1 q hq
    obtain ⟨k, hk13, ek⟩ := mb_k hm
    rw [if_neg h40, if_neg h40, nI_clamp (show q < 2 ^ 31 by omega), g0]
    by_cases k13 : K 65 (4 * q) = 13
    · rw [if_pos k13, if_pos k13]; exact sim_done h0 hB hp
    rw [if_neg k13, if_neg k13, ← e13]
    by_cases k12 : K 65 (4 * q) = 12 ∧ I (h + 2 + p) 0 = 1
    · rw [if_pos k12, if_pos k12]; exact sim_enter h0 hB hp hc ⟨q, hq, a5⟩
    rw [if_neg k12, if_neg k12]
    by_cases ks : 7 ≤ k ∧ k ≤ 11
    · rw [ek, if_pos ⟨nI_le (a := 7) ks.1 (by omega), nI_le (b := 11) ks.2 (by decide)⟩, if_pos ⟨nI_lt (a := 6) (by omega) (by omega), nI_lt (b := 12) (by omega) (by decide)⟩]
      exact sim_shr hB hp h0 hq a3 a4 a5 a7 a8 ek ks.1 ks.2 hm hw
    · rw [ek, if_neg (fun z => ks ⟨(nI_leI (a := 7) (by decide) (by omega)).mp z.1, (nI_leI (b := 11) (by omega) (by decide)).mp z.2⟩), if_neg (Nat.succ_ne_zero m), if_neg (fun z => ks ⟨(nI_ltI (a := 6) (by decide) (by omega)).mp z.1, Nat.le_of_lt_succ ((nI_ltI (b := 12) (by omega) (by decide)).mp z.2)⟩)]
      obtain ⟨⟨q', hq', f1, f2⟩, f3, f4, f5⟩ := sim_free (a := h + 2 + p) (P := o + p) h0.2.2.1 hq (by omega) a5 a6 a7 a8
      refine ih _ _ ?_ (by rw [dF_k (by decide) (by decide) (by decide) (by decide)]; exact hw)
      refine h0.step hB hp (fun x k h1 _ => dF_o h1) (fun k => ⟨frI_o (by decide) (by decide) (by decide) (by decide), frI_o (by decide) (by decide) (by decide) (by decide)⟩) (fun P' hP => ⟨frI_P (by decide) hP, frI_P (by decide) hP, frI_P (by decide) hP, frI_P (by decide) hP, frI_P (by decide) hP⟩) (fun k hk => frI_70 hm hk) ?_ ?_ (fun hb => f5 (h0.2.2.2.2.2 hb p hp))
      · refine ⟨w, q', a1, hq', by rw [dF_k (by decide) (by decide) (by decide) (by decide)]; exact a3, by rw [frI_o (by decide) (by decide) (by decide) (by decide)]; exact a4, f1, f2, f3, f4, fun z => ?_⟩
        subst z
        rcases hw with e | e
        · exact absurd ((nI_eq (by decide) (by decide)).mp (a3.symm.trans e)) (by decide)
        · exact absurd ((nI_eq (by decide) (by decide)).mp (a3.symm.trans e)) (by decide)
      · intro k hk; rw [dF_o (by omega), frI_o (by decide) (by decide) (by decide) (by decide)]; exact h0.2.1 k hk
theorem sim_adv {h b o c p : Nat} {I K : pI} (hB : HB h b o) (hp : p < 3) (hc : c ≤ 3) (h0 : HRel I K h b o c) (hw : I (h + 2 + p) 0 = nI 1 ∨ I (h + 2 + p) 0 = nI 3) : HRel (adv I h p c) (wkI K (o + p) b c) h b o c := by
  have hh := hB.h
  unfold adv wkI
  refine sim_loop hB hp hc 60 _ _ ?_ (by rw [upI_k (by decide)]; exact hw)
  refine h0.step hB hp (fun x k h1 _ => upI_a h1) (fun k => ⟨upI_a (by decide), upI_a (by decide)⟩) (fun P' hP => ⟨upI_a (by decide), upI_a (by decide), upI_a (by decide), upI_a (by decide), upI_k hP⟩) (fun k _ => upI_a (by decide)) ?_ ?_ ?_
  · exact (h0.1 p hp).congr (upI_k (by decide)) (upI_k (by decide)) (upI_k (by decide)) (upI_a (by decide)) (upI_a (by decide)) (fun r hr => upI_a (by decide))
  · intro k hk; rw [upI_a (by omega), upI_a (by decide)]; exact h0.2.1 k hk
  · intro hb
    obtain ⟨x1, x2, x3, x4⟩ := h0.2.2.2.2.2 hb p hp
    exact ⟨by rw [upI_k (by decide), upI_a (by decide)]; exact x1, by rw [upI_k (by decide)]; exact x2, by rw [upI_k (by decide), upI_a (by decide)]; exact x3, by rw [upI_s, upI_s, x4]⟩
