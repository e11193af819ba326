/-! THE JUDGES ALIKE: where both begin -/
theorem flA_o {a a' k : Nat} {v : Int32} (h : a' ≠ a) : ∀ (m i : Nat) (I : pI), flA a v m i I a' k = I a' k := by
  intro m
  induction m with
  | zero => intro i I; rfl
  | succ m ih => intro i I; rw [flA, ih, upI_a h]
theorem flA_k {a k : Nat} {v : Int32} : ∀ (m i : Nat) (I : pI), (k < i ∨ i + m ≤ k) → flA a v m i I a k = I a k := by
  intro m
  induction m with
  | zero => intro i I _; rfl
  | succ m ih => intro i I h; rw [flA, ih _ _ (by omega), upI_k (by omega)]
theorem flA_s {a k : Nat} {v : Int32} : ∀ (m i : Nat) (I : pI), i ≤ k → k < i + m → flA a v m i I a k = v := by
  intro m
  induction m with
  | zero => intro i I h1 h2; omega
  | succ m ih =>
    intro i I h1 h2
    rw [flA]
    by_cases e : i = k
    · subst e; rw [flA_k _ _ _ (by omega), upI_s]
    · exact ih _ _ (by omega) (by omega)
theorem fgI_o {I : pI} {a x k : Nat} (h : x ≠ a) : fgI I a x k = I x k := by
  unfold fgI endI; rw [upI_a h, upI_a h, upI_a h, upI_a h, upI_a h, upI_a h]
theorem fgI_z {I : pI} {a k : Nat} (h : k < 6) : fgI I a a k = 0 := by
  unfold fgI endI
  rcases (show k = 0 ∨ k = 1 ∨ k = 2 ∨ k = 3 ∨ k = 4 ∨ k = 5 by omega) with rfl | rfl | rfl | rfl | rfl | rfl <;> simp [upI]
theorem clI_o {I : pI} {h x k : Nat} {n : Int32} (h1 : x ≠ h ∨ (k ≠ 1 ∧ k ≠ 2)) (h2 : x < h + 2 ∨ h + 5 ≤ x) : clI I h n x k = I x k := by
  unfold clI
  rw [fgI_o (by omega), fgI_o (by omega), fgI_o (by omega)]
  rcases h1 with h1 | ⟨h1, h3⟩
  · rw [upI_a h1, upI_a h1]
  · rw [upI_k h3, upI_k h1]
theorem clI_1 {I : pI} {h : Nat} {n : Int32} : clI I h n h 1 = n := by
  unfold clI
  rw [fgI_o (by omega), fgI_o (by omega), fgI_o (by omega), upI_k (by decide), upI_s]
theorem clI_2 {I : pI} {h : Nat} {n : Int32} : clI I h n h 2 = 0 := by
  unfold clI
  rw [fgI_o (by omega), fgI_o (by omega), fgI_o (by omega), upI_s]
theorem clI_z {I : pI} {h j k : Nat} {n : Int32} (hj : j < 3) (hk : k < 6) : clI I h n (h + 2 + j) k = 0 := by
  unfold clI
  rcases (show j = 0 ∨ j = 1 ∨ j = 2 by omega) with rfl | rfl | rfl
  · rw [fgI_o (by omega), fgI_o (by omega), fgI_z hk]
  · rw [fgI_o (by omega), fgI_z hk]
  · rw [fgI_z hk]
/-- the class's judge before its first state -/
def stA (I : pI) (c a : Nat) : pI := flA 55 (nI a) 3 0 (clI (flA 58 (-1) 8192 0 (upI (upI I 48 2 0) 48 1 0)) 50 (nI c))
def stI (I : pI) (J : pJ) (c a : Nat) : pI := adB (stA I c a) (slN (stA I c a) J c) 0 (-1)
def stJ (I : pI) (J : pJ) (c a : Nat) : pJ := adJ (stA I c a) 0 c 0 J
theorem stA_c {I : pI} {c a : Nat} : stA I c a 50 1 = nI c := by unfold stA; rw [flA_o (by decide), clI_1]
theorem stA_w {I : pI} {c a : Nat} : stA I c a 50 2 = 0 := by unfold stA; rw [flA_o (by decide), clI_2]
theorem stA_z {I : pI} {c a j k : Nat} (hj : j < 3) (hk : k < 6) : stA I c a (52 + j) k = 0 := by unfold stA; rw [flA_o (by omega)]; exact clI_z (h := 50) hj hk
theorem stA_l {I : pI} {c a j : Nat} (hj : j < 3) : stA I c a 55 j = nI a := by unfold stA; rw [flA_s _ _ _ (by omega) (by omega)]
theorem stA_s {I : pI} {c a t : Nat} (ht : t < 8192) : stA I c a 58 t = -1 := by unfold stA; rw [flA_o (by decide), clI_o (by omega) (by omega), flA_s _ _ _ (by omega) (by omega)]
theorem stA_f {I : pI} {c a : Nat} : stA I c a 48 2 = 0 := by unfold stA; rw [flA_o (by decide), clI_o (by omega) (by omega), flA_o (by decide), upI_k (by decide), upI_s]
theorem stA_t {I : pI} {c a : Nat} : stA I c a 48 1 = 0 := by unfold stA; rw [flA_o (by decide), clI_o (by omega) (by omega), flA_o (by decide), upI_s]
theorem stA_o {I : pI} {c a x k : Nat} (h : x < 48 ∨ x = 49 ∨ 58 < x) : stA I c a x k = I x k := by unfold stA; rw [flA_o (by omega), clI_o (by omega) (by omega), flA_o (by omega), upI_a (by omega), upI_a (by omega)]
theorem stA_SV {I : pI} {c a : Nat} : SV (stA I c a) := fun _ ht => Or.inl (stA_s ht)
/-- the reference's judge before its first state -/
def rwL : Nat → Nat → pI → pI
  | 0, _, K => K
  | m + 1, k, K => rwL m (k + 1) (upI K 67 (8 + k) 0)
def rpL (c a : Nat) : Nat → Nat → pI → pI
  | 0, _, K => K
  | m + 1, k, K => rpL c a m (k + 1) (upI (reI K (3 + k)) 81 k (if k < c then nI a else 0))
def rjA (K : pI) (c a : Nat) : pI := upI (upI (rpL c a 3 0 (rwL 8 0 (upI K 64 0 0))) 64 12 0) 64 21 0
def rjI (K : pI) (c a : Nat) : pI := upI (fdK (rjA K c a) 0) 64 12 1
theorem rwL_o {x i : Nat} : ∀ (m k : Nat) (K : pI), (x ≠ 67 ∨ i < 8 + k ∨ 8 + k + m ≤ i) → rwL m k K x i = K x i := by
  intro m
  induction m with
  | zero => intro k K _; rfl
  | succ m ih =>
    intro k K h
    rw [rwL, ih _ _ (by omega)]
    rcases h with h | h
    · exact upI_a h
    · exact upI_k (by omega)
theorem rwL_s {i : Nat} : ∀ (m k : Nat) (K : pI), k ≤ i → i < k + m → rwL m k K 67 (8 + i) = 0 := by
  intro m
  induction m with
  | zero => intro k K h1 h2; omega
  | succ m ih =>
    intro k K h1 h2
    rw [rwL]
    by_cases e : k = i
    · subst e; rw [rwL_o _ _ _ (by omega), upI_s]
    · exact ih _ _ (by omega) (by omega)
theorem reI_s {K : pI} {P : Nat} : reI K P 68 P = 0 ∧ reI K P 69 P = 0 := by
  unfold reI; rw [rgZ_o (by decide), rgZ_o (by decide), upI_a (by decide), upI_s, upI_s]; exact ⟨rfl, rfl⟩
theorem rpL_o {c a x i : Nat} : ∀ (m k : Nat) (K : pI), (x ≠ 81 ∨ i < k ∨ k + m ≤ i) → ((x ≠ 68 ∧ x ≠ 69) ∨ i < 3 + k ∨ 3 + k + m ≤ i) → (x ≠ 70 ∨ i < 6 * (3 + k) ∨ 6 * (3 + k) + 6 * m ≤ i) → rpL c a m k K x i = K x i := by
  intro m
  induction m with
  | zero => intro k K _ _ _; rfl
  | succ m ih =>
    intro k K h1 h2 h3
    rw [rpL, ih _ _ (by omega) (by omega) (by omega)]
    have e : upI (reI K (3 + k)) 81 k (if k < c then nI a else 0) x i = reI K (3 + k) x i := by
      rcases h1 with h1 | h1
      · exact upI_a h1
      · exact upI_k (by omega)
    rw [e]
    by_cases h70 : x = 70
    · subst h70; exact reI_70 (by omega)
    · by_cases h8 : x = 68 ∨ x = 69
      · exact reI_P h70 (by omega)
      · exact reI_o h70 (by omega) (by omega)
theorem rpL_s {c a i : Nat} : ∀ (m k : Nat) (K : pI), k ≤ i → i < k + m → rpL c a m k K 68 (3 + i) = 0 ∧ rpL c a m k K 69 (3 + i) = 0 ∧ (∀ r, r < 6 → rpL c a m k K 70 (6 * (3 + i) + r) = 0) ∧ rpL c a m k K 81 i = (if i < c then nI a else 0) := by
  intro m
  induction m with
  | zero => intro k K h1 h2; omega
  | succ m ih =>
    intro k K h1 h2
    by_cases e : k = i
    · subst e
      refine ⟨?_, ?_, fun r hr => ?_, ?_⟩
      · rw [rpL, rpL_o _ _ _ (by omega) (by omega) (by omega), upI_a (by decide)]; exact reI_s.1
      · rw [rpL, rpL_o _ _ _ (by omega) (by omega) (by omega), upI_a (by decide)]; exact reI_s.2
      · rw [rpL, rpL_o _ _ _ (by omega) (by omega) (by omega), upI_a (by decide)]; exact reI_z hr
      · rw [rpL, rpL_o _ _ _ (by omega) (by omega) (by omega), upI_s]
    · rw [rpL]; exact ih _ _ (by omega) (by omega)
theorem rjA_o {K : pI} {c a x i : Nat} (h : x < 64 ∨ x = 65 ∨ x = 66 ∨ (71 ≤ x ∧ x ≠ 81)) : rjA K c a x i = K x i := by
  unfold rjA
  rw [upI_a (by omega), upI_a (by omega), rpL_o _ _ _ (by omega) (by omega) (by omega), rwL_o _ _ _ (by omega), upI_a (by omega)]
theorem rjA_64 {K : pI} {c a k : Nat} (h0 : k ≠ 0) (h1 : k ≠ 12) (h2 : k ≠ 21) : rjA K c a 64 k = K 64 k := by
  unfold rjA
  rw [upI_k h2, upI_k h1, rpL_o _ _ _ (by omega) (by omega) (by omega), rwL_o _ _ _ (by omega), upI_k h0]
theorem rjA_0 {K : pI} {c a : Nat} : rjA K c a 64 0 = 0 ∧ rjA K c a 64 12 = 0 ∧ rjA K c a 64 21 = 0 := by
  unfold rjA
  refine ⟨?_, ?_, ?_⟩
  · rw [upI_k (by decide), upI_k (by decide), rpL_o _ _ _ (by omega) (by omega) (by omega), rwL_o _ _ _ (by omega), upI_s]
  · rw [upI_k (by decide), upI_s]
  · rw [upI_s]
theorem rjA_m {K : pI} {c a k : Nat} : (k < 8 → rjA K c a 67 k = K 67 k) ∧ (k < 3 → rjA K c a 68 k = K 68 k ∧ rjA K c a 69 k = K 69 k) ∧ (k < 18 → rjA K c a 70 k = K 70 k) := by
  unfold rjA
  refine ⟨fun h => ?_, fun h => ⟨?_, ?_⟩, fun h => ?_⟩
  all_goals rw [upI_a (by decide), upI_a (by decide), rpL_o _ _ _ (by omega) (by omega) (by omega), rwL_o _ _ _ (by omega), upI_a (by decide)]
theorem rjA_w {K : pI} {c a k : Nat} (h : k < 8) : rjA K c a 67 (8 + k) = 0 := by
  unfold rjA
  rw [upI_a (by decide), upI_a (by decide), rpL_o _ _ _ (by omega) (by omega) (by omega), rwL_s _ _ _ (by omega) (by omega)]
theorem rjA_p {K : pI} {c a k : Nat} (h : k < 3) : rjA K c a 68 (3 + k) = 0 ∧ rjA K c a 69 (3 + k) = 0 ∧ (∀ r, r < 6 → rjA K c a 70 (6 * (3 + k) + r) = 0) ∧ rjA K c a 81 k = (if k < c then nI a else 0) := by
  have := rpL_s (c := c) (a := a) (i := k) 3 0 (rwL 8 0 (upI K 64 0 0)) (by omega) (by omega)
  unfold rjA
  refine ⟨?_, ?_, fun r hr => ?_, ?_⟩
  · rw [upI_a (by decide), upI_a (by decide)]; exact this.1
  · rw [upI_a (by decide), upI_a (by decide)]; exact this.2.1
  · rw [upI_a (by decide), upI_a (by decide)]; exact this.2.2.1 r hr
  · rw [upI_a (by decide), upI_a (by decide)]; exact this.2.2.2
theorem init_QR {I K : pI} {c a : Nat} (ha : a ≤ 3) : QR (stA I c a) (rjA K c a) c := by
  intro p hp
  obtain ⟨k0, k1, k2, k3⟩ := rjA_p (K := K) (c := c) (a := a) hp
  have hn : ∀ j, j < 6 → (0 : Int32) = nib (nI 0) (nI j) := fun j hj => (nib_0 (by omega)).symm
  by_cases hpc : p < c
  · rw [if_pos hpc] at k3
    exact ⟨0, 0, 0, a, ⟨by decide, by decide, by decide, ha, fun _ => ⟨rfl, rfl⟩⟩, ⟨stA_z hp (by decide), stA_z hp (by decide), stA_z hp (by decide)⟩, ⟨k0, k1, fun j hj => (k2 j hj).trans (hn j hj), k3⟩, fun _ => stA_l hp, fun z => absurd z (by omega)⟩
  · rw [if_neg hpc] at k3
    exact ⟨0, 0, 0, 0, ⟨by decide, by decide, by decide, by decide, fun _ => ⟨rfl, rfl⟩⟩, ⟨stA_z hp (by decide), stA_z hp (by decide), stA_z hp (by decide)⟩, ⟨k0, k1, fun j hj => (k2 j hj).trans (hn j hj), k3⟩, fun z => absurd z hpc, fun _ => ⟨rfl, rfl, rfl, rfl⟩⟩
theorem cnt_none {I : pI} : ∀ n, (∀ t, t < n → I 58 t = -1) → cnt I n = 0 := by
  intro n
  induction n with
  | zero => intro _; rfl
  | succ n ih => intro h; rw [cnt, ih (fun t ht => h t (by omega)), if_pos (h n (by omega))]
theorem init_row {I K : pI} {J JK : pJ} {c a : Nat} (hc : c ≤ 3) (ha : a ≤ 3) (hG : GRel I K) (hcK : K 64 2 = nI c) : JRow (fun _ => none) (stI I J c a) (stJ I J c a) (rjI K c a) (fdJ (rjA K c a) JK 0) c 1 0 := by
  have hQ := init_QR (I := I) (K := K) (c := c) ha
  have ew : fdW (rjA K c a) = stA I c a 50 2 := by
    rw [stA_w]
    exact pkR_all (by decide) (fun j hj => by rw [nib_0 hj, rjA_w hj]) (fun j h1 h2 => absurd h2 (by omega))
  have hh := hsN_lt (mxL mxS (stA I c a) c 0 (stA I c a 50 2).toInt64)
  have hhI : hsI (stA I c a) c < 8192 := hh
  have hsl : slN (stA I c a) J c = hsI (stA I c a) c := by
    obtain ⟨k, hk, e1, -, -⟩ := slF_new (I := stA I c a) (J := J) (c := c) (h := hsI (stA I c a) c) (j := 0) (stA_s (Nat.mod_lt _ (by decide))) (fun t ht hne => absurd (stA_s ht) hne) 0 0 8192 (by omega) (by omega) (fun i' hi' => absurd hi' (by omega))
    have hk0 : k = 0 := by omega
    subst hk0
    rw [Nat.add_zero, Nat.mod_eq_of_lt hhI] at e1
    exact e1
  have so : ∀ x k, x < 48 ∨ x = 49 ∨ x = 50 ∨ x = 52 ∨ x = 53 ∨ x = 54 ∨ x = 55 ∨ x = 57 ∨ 60 < x → stI I J c a x k = stA I c a x k := fun x k h => by
    unfold stI adB adA
    rw [upI_a (by omega), upI_a (by omega), upI_a (by omega), upI_a (by omega), upI_a (by omega)]
  have s56 : stI I J c a 56 0 = stA I c a 50 2 := by unfold stI adB adA; rw [upI_a (by decide), upI_a (by decide), upI_s]
  have s58 : ∀ t, stI I J c a 58 t = if t = slN (stA I c a) J c then nI 0 else stA I c a 58 t := fun t => by
    unfold stI adB adA
    rw [upI_a (by decide), upI_a (by decide), upI_a (by decide)]
    by_cases e : t = slN (stA I c a) J c
    · rw [if_pos e, e, upI_s]
    · rw [if_neg e, upI_k e, upI_a (by decide)]
  have jn : ∀ p, p < c → stJ I J c a 57 (3 * 0 + p) = cpp (stA I c a) p := fun p h => adJ_own c 0 J (by omega) (by omega)
  refine ⟨⟨?_, ⟨?_, ?_⟩, ⟨by decide, ?_, ?_⟩, fun j h1 h2 => ?_⟩, ?_, ?_, ⟨?_, ?_, ?_⟩, ⟨?_, ?_⟩, ?_, ?_⟩
  · refine hG.congr (fun i k hi => ?_) (fun k => ?_)
    · rw [so _ _ (by omega), stA_o (by omega)]
    · unfold rjI fdK; rw [upI_a (by decide), upI_a (by decide), rjA_o (by omega)]
  · rw [so _ _ (by omega), stA_c]
  · unfold rjI fdK; rw [upI_k (by decide), upI_a (by decide), rjA_64 (by decide) (by decide) (by decide)]; exact hcK
  · unfold stI adB adA; rw [upI_a (by decide), upI_a (by decide), upI_a (by decide), upI_a (by decide), upI_s]
  · unfold rjI; rw [upI_s]; rfl
  · rw [so _ _ (by omega), so _ _ (by omega), so _ _ (by omega)]
    exact ⟨stA_z h2 (by decide), stA_z h2 (by decide), stA_z h2 (by decide)⟩
  · intro s hs
    have hs0 : s = 0 := by omega
    subst hs0
    refine ⟨?_, fun p hp => ?_, fun p h1 h2 => ?_⟩
    · rw [s56, ← ew]; unfold rjI fdK; rw [upI_a (by decide), upI_s]
    · obtain ⟨r, q, w, l, t1, e1, e2, -⟩ := hQ.pack (p := p) (by omega)
      exact ⟨r, q, w, l, t1, by rw [jn p hp]; exact e1 hp, by rw [fdJ_p (by omega), if_pos rfl]; exact e2⟩
    · obtain ⟨r, q, w, l, t1, e1, e2, e3⟩ := hQ.pack h2
      rw [fdJ_p h2, if_pos rfl]; exact e3 h1
  · intro s s' h1 h2 _ _; omega
  · intro t ht
    rw [s58]
    split
    · exact Or.inr ⟨0, by decide, rfl⟩
    · exact Or.inl (stA_s ht)
  · have h9 := cnt_up (I := stA I c a) (I' := stI I J c a) (t := slN (stA I c a) J c) (fun i hi => by rw [s58, if_neg hi]) 8192
    rw [cnt_none 8192 (fun t ht => stA_s ht)] at h9
    split at h9 <;> omega
  · intro s hs
    have hs0 : s = 0 := by omega
    subst hs0
    have e : hsR (stI I J c a) (stJ I J c a) c 0 = hsI (stA I c a) c := by
      unfold hsR hsI
      rw [s56, mx_eq (J := stJ I J c a) (s := 0) jn c 0 _ (by omega)]
    refine ⟨0, by decide, ?_, fun i hi => absurd hi (by omega)⟩
    rw [e, Nat.add_zero, Nat.mod_eq_of_lt hhI, s58, hsl, if_pos rfl]
  · intro t ht
    have ht0 : t = 0 := by omega
    subst ht0
    unfold stI adB
    rw [upI_s]; rfl
  · intro m t hm; omega
  · intro s' hs'; omega
  · intro s h1 h2; omega
