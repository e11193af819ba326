/-! THE JUDGES ANSWER ALIKE -/
theorem lst_val {to : Nat → Option Nat} {t : Nat} : ∀ M, lst to t M = -1 ∨ ∃ j, j < M ∧ lst to t M = nI j := by
  intro M
  induction M with
  | zero => exact Or.inl rfl
  | succ k ih =>
    rw [lst]
    by_cases h : to k = some t
    · rw [if_pos h]; exact Or.inr ⟨k, Nat.lt_succ_self _, rfl⟩
    · rw [if_neg h]
      rcases ih with h1 | ⟨j, h1, h2⟩
      · exact Or.inl h1
      · exact Or.inr ⟨j, by omega, h2⟩
theorem lst_uni {to to' : Nat → Option Nat} {t M0 : Nat} {v : Nat → Int32} (hM : M0 < 2 ^ 31) (h1 : ∀ m, m < M0 → to m = some t → v m = lst to t m) (h2 : ∀ m, m < M0 → to' m = some t → v m = lst to' t m) : ∀ M, M ≤ M0 → lst to t M = lst to' t M → ∀ m, m < M → (to m = some t ↔ to' m = some t) := by
  have ne : ∀ (f : Nat → Option Nat) (k : Nat), k < M0 → ¬ nI k = lst f t k := by
    intro f k hk e
    rcases lst_val (to := f) (t := t) k with h | ⟨j, hj, h⟩
    · rw [h] at e; exact nI_m1 (by omega) e
    · rw [h] at e; have := (nI_eq (by omega) (by omega)).mp e; omega
  intro M
  induction M with
  | zero => intro _ _ m hm; omega
  | succ k ih =>
    intro hk he m hm
    rw [lst, lst] at he
    by_cases a : to k = some t
    · by_cases b : to' k = some t
      · by_cases e : m = k
        · subst e; exact ⟨fun _ => b, fun _ => a⟩
        · exact ih (by omega) ((h1 k (by omega) a).symm.trans (h2 k (by omega) b)) m (by omega)
      · rw [if_pos a, if_neg b] at he
        exact absurd he (ne to' k (by omega))
    · by_cases b : to' k = some t
      · rw [if_neg a, if_pos b] at he
        exact absurd he.symm (ne to k (by omega))
      · rw [if_neg a, if_neg b] at he
        by_cases e : m = k
        · subst e; exact ⟨fun z => absurd z a, fun z => absurd z b⟩
        · exact ih (by omega) he m (by omega)
theorem CE_uni {ov : Nat → Prop} {to to' : Nat → Option Nat} {I : pI} {f : Nat} (hf : f ≤ 3000) (h : JE to I f (3 * f)) (h' : JE to' I f (3 * f)) {s : Nat} (hs : s < f) (hc : CE ov to s) : CE ov to' s := by
  refine hc (fun t => t < f → CE ov to' t) (fun t z _ => CE.ov z) (fun t k u hk hto hu ht => ?_) hs
  obtain ⟨u1, -⟩ := h.2 (3 * t + k) u (by omega) hto
  have e : lst to u (3 * f) = lst to' u (3 * f) := (h.1 u u1).symm.trans (h'.1 u u1)
  have := (lst_uni (v := I 61) (by omega) (fun m hm z => (h.2 m u hm z).2) (fun m hm z => (h'.2 m u hm z).2) (3 * f) (Nat.le_refl _) e (3 * t + k) (by omega)).mp hto
  exact CE.to hk this (hu u1)
theorem JEnd.found {to : Nat → Option Nat} {c : Nat} {x y : Int32 × Nat × pI × pJ} (h : JEnd to c x y) : x.2.1 ≤ 3000 := by
  rcases h.2.2 with ⟨-, -, hR⟩ | ⟨-, hT⟩
  · exact hR.1.2.2.1.1
  · exact hT.1
/-- both judges, one behind the other: the same verdict, as many states, the same trail -/
theorem judge_alike {I I1 I2 : pI} {J Ja J1 J2 : pJ} {c a : Nat} {to1 to2 : Nat → Option Nat} {y1 : Int32 × Nat × pI × pJ} {r r' : Int32} (h1 : CJ I J c a to1 r I1 Ja) (e1 : JEnd to1 c (jX I J c a) y1) (e2 : JEnd to2 c (jX I J c a) (kY I1 J1 c a)) (h2 : RJ I1 J1 c a to2 (jX I J c a).2.2.2 r' I2 J2) :
    r = r' ∧ I2 64 12 = I1 48 2 ∧ ∃ n, n ≤ 3000 ∧ I1 48 1 = nI n ∧ I2 64 21 = nI n ∧ ∀ j, j < n → I1 49 j = I2 82 (n - 1 - j) := by
  obtain ⟨-, -, c3, c4, c5, c6⟩ := h1
  obtain ⟨-, k2, k3, k4, k5⟩ := h2
  have hf3 := e1.found
  revert c3 c4 c5 c6 k2 k3 k4 k5 e1 e2 hf3
  generalize jX I J c a = x
  generalize kY I1 J1 c a = y
  intro e1 e2 c3 c4 c5 c6 k2 k3 k4 k5 hf3
  obtain ⟨hpos, heq, hE2⟩ := e2
  have hL : jL x = kL y := by
    unfold jL kL
    rcases hE2 with ⟨hx, hy, -⟩ | ⟨⟨hx, hy⟩ | ⟨hx, hy⟩, hT⟩
    · rw [if_neg (by rw [hx]; decide), if_neg (by rw [hy]; decide)]
    · rw [if_pos hx, if_pos hy, pth_eq hf3 hT.2.2.2 _ _ (by omega), heq]
    · rw [if_neg (by rw [hx]; decide), if_neg (by rw [hy]; decide)]
  have hlen : (jL x).length ≤ 3000 := by
    unfold jL
    split
    · rename_i hx1
      rcases hE2 with ⟨hx, -, -⟩ | ⟨-, hT⟩
      · rw [hx] at hx1; exact absurd hx1 (by decide)
      · have := pth_len (JF.C hf3 hT.2.2.2).1 x.2.1 (x.2.1 - 1) (by omega)
        omega
    · exact Nat.zero_le _
  refine ⟨?_, by rw [k2, c3, heq], (jL x).length, hlen, c4, by rw [k3, ← hL], fun j hj => ?_⟩
  · rcases hE2 with ⟨hx, hy, hR2⟩ | ⟨⟨hx, hy⟩ | ⟨hx, hy⟩, -⟩
    · have hR1 : JRow to1 x.2.2.1 x.2.2.2 y1.2.2.1 y1.2.2.2 c x.2.1 x.2.1 := by
        rcases e1.2.2 with ⟨-, -, hR⟩ | ⟨⟨hx', -⟩ | ⟨hx', -⟩, -⟩
        · exact hR
        · rw [hx] at hx'; exact absurd hx' (by decide)
        · rw [hx] at hx'; exact absurd hx' (by decide)
      have hiff : (∀ s, s < x.2.1 → CE (fun t => orL x.2.2.2 t c 0 0 = 0) to1 s) ↔ (∀ s, s < y.2.1 → CE (fun t => orL x.2.2.2 t c 0 0 = 0) to2 s) := by
        rw [← heq]
        exact ⟨fun h s hs => CE_uni hf3 hR1.2.2.2.2.1 hR2.2.2.2.2.1 hs (h s hs), fun h s hs => CE_uni hf3 hR2.2.2.2.2.1 hR1.2.2.2.2.1 hs (h s hs)⟩
      rcases c6 with ⟨hx', -⟩ | ⟨hx', -⟩ | ⟨-, -, c7⟩
      · rw [hx] at hx'; exact absurd hx' (by decide)
      · rw [hx] at hx'; exact absurd hx' (by decide)
      · rcases k5 with ⟨hy', -⟩ | ⟨hy', -⟩ | ⟨-, -, k7⟩
        · rw [hy] at hy'; exact absurd hy' (by decide)
        · rw [hy] at hy'; exact absurd hy' (by decide)
        · rcases c7 with ⟨rfl, ca⟩ | ⟨rfl, ca⟩ <;> rcases k7 with ⟨rfl, ka⟩ | ⟨rfl, ka⟩
          · rfl
          · exact absurd (hiff.mp ca) ka
          · exact absurd (hiff.mpr ka) ca
          · rfl
    · rcases c6 with ⟨-, rfl⟩ | ⟨hx', -⟩ | ⟨hx', -⟩
      · rcases k5 with ⟨-, rfl⟩ | ⟨hy', -⟩ | ⟨hy', -⟩
        · rfl
        · rw [hy] at hy'; exact absurd hy' (by decide)
        · exact absurd hy hy'
      · rw [hx] at hx'; exact absurd hx' (by decide)
      · exact absurd hx hx'
    · rcases c6 with ⟨hx', -⟩ | ⟨-, rfl⟩ | ⟨-, hx', -⟩
      · rw [hx] at hx'; exact absurd hx' (by decide)
      · rcases k5 with ⟨hy', -⟩ | ⟨-, rfl⟩ | ⟨-, hy', -⟩
        · rw [hy] at hy'; exact absurd hy' (by decide)
        · rfl
        · exact absurd hy hy'
      · exact absurd hx hx'
  · rw [c5 j hj, k4 _ (by rw [← hL]; omega), ← hL]
