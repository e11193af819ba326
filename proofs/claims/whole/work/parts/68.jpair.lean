/-! THE JUDGES ALIKE: one move, one state, all states -/
def fwT (X : pI) (J : pJ) (c s p f : Nat) : Int32 × Nat × pI × pJ :=
  if X 58 (slN X J c) = -1 then (if f = 3000 then (3, f, X, J) else (if 2 ≤ iwL (nwI X J c s p f) c 0 0 then 1 else 0, f + 1, nwI X J c s p f, adJ X f c 0 J))
  else (0, f, ntI X (3 * s + p) (X 58 (slN X J c)).toNatClampNeg, J)
def fwS (I : pI) (J : pJ) (c s p f : Nat) : Int32 × Nat × pI × pJ := if skC (rsI I J c s) p then (0, f, rsI I J c s, J) else fwT (mvJ (rsI I J c s) c p) J c s p f
def exT (Y : pI) (JK : pJ) (c s k f : Nat) : Int32 × Nat × pI × pJ :=
  if fdN Y JK f = f then (if f = 3000 then (3, f, Y, JK) else if 1 < hwL (nwK Y s k f) c 0 0 then (1, f + 1, nwK Y s k f, fdJ Y JK f) else (-1, f + 1, nwK Y s k f, ldJ (fdJ Y JK f) s f))
  else (-1, f, Y, ldJ JK s (fdN Y JK f))
def exS (K : pI) (JK : pJ) (c s k f : Nat) : Int32 × Nat × pI × pJ := if k < c ∧ ¬ skR (opI K JK s) k then exT (moJ (opI K JK s) c k) JK c s k f else (-1, f, opI K JK s, ldJ JK s 4095)
def SR (to : Nat → Option Nat) (c s k : Nat) (x y : Int32 × Nat × pI × pJ) : Prop := x.2.1 = y.2.1 ∧ ((x.1 = 0 ∧ y.1 = -1 ∧ JRel to x.2.2.1 x.2.2.2 y.2.2.1 y.2.2.2 c x.2.1 s k) ∨ (((x.1 = 1 ∧ y.1 = 1) ∨ (x.1 = 3 ∧ y.1 = 3)) ∧ JTr x.2.2.1 y.2.2.1 x.2.1))
theorem iw_hw {I K : pI} (h : ∀ p, p < 3 → I (52 + p) 0 = K 68 (3 + p)) : ∀ (m p x : Nat), p + m ≤ 3 → iwL I m p x = hwL K m p x := by
  intro m
  induction m with
  | zero => intro p x _; rfl
  | succ m ih => intro p x hp; rw [iwL, hwL, h p (by omega), ih _ _ (by omega)]
theorem QR.idle {I K : pI} {c : Nat} (h : QR I K c) : ∀ j, c ≤ j → j < 3 → I (52 + j) 0 = 0 ∧ I (52 + j) 1 = 0 ∧ I (52 + j) 2 = 0 := by
  intro j h1 h2
  obtain ⟨r, q, w, l, -, ⟨i0, i1, i2⟩, -, -, h5⟩ := h j h2
  obtain ⟨rfl, rfl, rfl, rfl⟩ := h5 h1
  exact ⟨i0, i1, i2⟩
theorem JRel.opened {to : Nat → Option Nat} {I K : pI} {J JK : pJ} {c f s k : Nat} (hc : c ≤ 3) (hs : s < f) (h : JRel to I J K JK c f s k) : JRel to (rsI I J c s) J (opI K JK s) JK c f s k :=
  h.hall (fun a i ha => rsI_o hc (by omega) (by omega) (by omega)) (rsI_o hc (by omega) (by omega) (by omega)) (open_rel hc h.1 h.2.1 hs).1.idle (fun a i ha => opI_o (by omega) (by omega) (by omega) (by omega) (by omega))
theorem JRel.moved {to : Nat → Option Nat} {I K : pI} {J JK : pJ} {c f s k p : Nat} (hc : c ≤ 3) (hp : p < c) (h : JRel to I J K JK c f s k) (hQ : QR I K c) (hH : HRel I K 50 8 3 c) (hk : ¬ skC I p) : JRel to (mvJ I c p) J (moJ K c p) JK c f s k :=
  h.hall (fun a i ha => by unfold mvJ; rw [mvA_o (by omega) (Or.inl (by omega)) (by omega) hc, lfC_o (by omega)]) (by unfold mvJ; rw [mvA_o (by omega) (Or.inr (by decide)) (by omega) hc, lfC_o (by omega)]) (move_rel hc hp hQ hH hk).1.idle (fun a i ha => by rw [(FP.moJ hc hp hH).1 a i (by omega), lfR_o (by omega)])
theorem sim_pair {to : Nat → Option Nat} {I K : pI} {J JK : pJ} {c f s p : Nat} (hc : c ≤ 3) (hp : p < c) (hs : s < f) (h : JRel to I J K JK c f s p) : f ≤ (fwS I J c s p f).2.1 ∧ ∃ to', SR to' c s (p + 1) (fwS I J c s p f) (exS K JK c s p f) := by
  obtain ⟨hQ, hH⟩ := open_rel hc h.1 h.2.1 hs
  have h1 := h.opened hc hs
  unfold fwS exS
  by_cases hk : skC (rsI I J c s) p
  · rw [if_pos hk, if_neg (fun z => z.2 ((sk_iff hQ hc hp).mp hk))]
    exact ⟨Nat.le_refl _, _, rfl, Or.inl ⟨rfl, rfl, h1.skip hc (by omega)⟩⟩
  · rw [if_neg hk, if_pos ⟨hp, fun z => hk ((sk_iff hQ hc hp).mpr z)⟩]
    have h2 := h1.moved hc hp hQ hH hk
    obtain ⟨hQ2, hH2⟩ := move_rel hc hp hQ hH hk
    revert h2 hQ2 hH2
    generalize mvJ (rsI I J c s) c p = X
    generalize moJ (opI K JK s) c p = Y
    intro h2 hQ2 hH2
    have hf3 := h2.1.2.2.1.1
    unfold fwT exT
    rcases find_alike hc hf3 hQ2 hH2.2.1 h2.2.1 h2.2.2.1 h2.2.2.2.1 with ⟨s0, hs0, e1, e2⟩ | ⟨e1, e2, hno, hsl⟩
    · rw [e1, e2, if_neg (nI_m1 (by omega)), if_neg (by omega), nI_clamp (by omega)]
      exact ⟨Nat.le_refl _, _, rfl, Or.inl ⟨rfl, rfl, h2.old hc (by omega) hs0⟩⟩
    · rw [if_pos e2, if_pos e1]
      by_cases h3 : f = 3000
      · rw [if_pos h3, if_pos h3]
        exact ⟨Nat.le_refl _, to, rfl, Or.inr ⟨Or.inr ⟨rfl, rfl⟩, hf3, h2.1.2.2.1.2.1, h2.1.2.2.1.2.2, h2.2.2.2.2.2.2⟩⟩
      · rw [if_neg h3, if_neg h3]
        have hn := h2.new hc (by omega) hs (by omega) hQ2 hH2.2.1 e2 hno hsl
        have ei : iwL (nwI X J c s p f) c 0 0 = hwL (nwK Y s p f) c 0 0 := iw_hw (fun p' hp' => by
          obtain ⟨r, q, w, l, -, ⟨i0, -, -⟩, ⟨k0, -, -, -⟩, -⟩ := hQ2 p' hp'
          rw [nwI_o (by omega), nwK_o (by decide) (by decide) (by omega), i0, k0]) c 0 0 (by omega)
        rw [ei]
        by_cases h4 : 1 < hwL (nwK Y s p f) c 0 0
        · rw [if_pos (show 2 ≤ hwL (nwK Y s p f) c 0 0 by omega), if_pos h4]
          exact ⟨Nat.le_succ _, to, rfl, Or.inr ⟨Or.inl ⟨rfl, rfl⟩, hn.1.2.2.1.1, hn.1.2.2.1.2.1, hn.1.2.2.1.2.2, hn.2.2.2.2.2.2⟩⟩
        · rw [if_neg (show ¬ 2 ≤ hwL (nwK Y s p f) c 0 0 by omega), if_neg h4]
          exact ⟨Nat.le_succ _, _, rfl, Or.inl ⟨rfl, rfl, hn⟩⟩
/-- no such process: the reference alone -/
theorem sim_none {to : Nat → Option Nat} {I K : pI} {J JK : pJ} {c f s k : Nat} (hc : c ≤ 3) (hk : c ≤ k) (hk3 : k < 3) (hs : s < f) (h : JRel to I J K JK c f s k) : SR (upT to (3 * s + k) none) c s (k + 1) (0, f, I, J) (exS K JK c s k f) := by
  unfold exS
  rw [if_neg (fun z => absurd z.1 (by omega))]
  refine ⟨rfl, Or.inl ⟨rfl, rfl, JRel.skip hc hk3 ?_⟩⟩
  exact h.hall (fun _ _ _ => rfl) rfl h.1.2.2.2 (fun a i ha => opI_o (by omega) (by omega) (by omega) (by omega) (by omega))
def rowC (c s : Nat) : Nat → Nat → Int32 × Nat × pI × pJ → Int32 × Nat × pI × pJ
  | 0, _, x => x
  | m + 1, p, x => if x.1 = 0 then rowC c s m (p + 1) (fwS x.2.2.1 x.2.2.2 c s p x.2.1) else x
def rowR (c s : Nat) : Nat → Nat → Int32 × Nat × pI × pJ → Int32 × Nat × pI × pJ
  | 0, _, x => x
  | m + 1, k, x => if x.1 = -1 then rowR c s m (k + 1) (exS x.2.2.1 x.2.2.2 c s k x.2.1) else x
theorem rowC_end {c s : Nat} {x : Int32 × Nat × pI × pJ} (h : x.1 ≠ 0) : ∀ m p, rowC c s m p x = x := by
  intro m
  cases m with
  | zero => intro p; rfl
  | succ m => intro p; rw [rowC, if_neg h]
theorem rowR_end {c s : Nat} {x : Int32 × Nat × pI × pJ} (h : x.1 ≠ -1) : ∀ m k, rowR c s m k x = x := by
  intro m
  cases m with
  | zero => intro k; rfl
  | succ m => intro k; rw [rowR, if_neg h]
theorem SR.stop {to : Nat → Option Nat} {c s k s' k' : Nat} {x y : Int32 × Nat × pI × pJ} (h : SR to c s k x y) (h1 : x.1 ≠ 0) : y.1 ≠ -1 ∧ SR to c s' k' x y := by
  obtain ⟨e, h⟩ := h
  rcases h with ⟨h, -⟩ | ⟨h, hT⟩
  · exact absurd h h1
  · refine ⟨?_, e, Or.inr ⟨h, hT⟩⟩
    rcases h with ⟨-, h⟩ | ⟨-, h⟩ <;> (rw [h]; decide)
theorem sim_row {c s : Nat} (hc : c ≤ 3) : ∀ (d p : Nat) (to : Nat → Option Nat) (x y : Int32 × Nat × pI × pJ), p + d = 3 → s < x.2.1 → SR to c s p x y → x.2.1 ≤ (rowC c s (c - p) p x).2.1 ∧ ∃ to', SR to' c s 3 (rowC c s (c - p) p x) (rowR c s d p y) := by
  intro d
  induction d with
  | zero =>
    intro p to x y hp hs h
    have e : c - p = 0 := by omega
    rw [e]
    have hp3 : p = 3 := by omega
    subst hp3
    exact ⟨Nat.le_refl _, to, h⟩
  | succ d ih =>
    intro p to x y hp hs h
    by_cases h0 : x.1 = 0
    · obtain ⟨e, h1⟩ := id h
      rcases h1 with ⟨-, hy, hJ⟩ | ⟨hx, -⟩
      · rw [rowR, if_pos hy]
        by_cases hpc : p < c
        · obtain ⟨hle, to', hS⟩ := sim_pair hc hpc hs hJ
          rw [show c - p = (c - (p + 1)) + 1 by omega, rowC, if_pos h0, ← e]
          obtain ⟨g1, g2⟩ := ih (p + 1) to' _ _ (by omega) (Nat.lt_of_lt_of_le hs hle) hS
          exact ⟨Nat.le_trans hle g1, g2⟩
        · have hS := sim_none hc (by omega) (by omega) hs hJ
          have hx : x = (0, x.2.1, x.2.2.1, x.2.2.2) := by rw [← h0]
          rw [← hx] at hS
          rw [← e]
          have := ih (p + 1) _ x _ (by omega) hs hS
          rw [show c - (p + 1) = 0 by omega] at this
          rw [show c - p = 0 by omega]
          exact this
      · rcases hx with ⟨hx, -⟩ | ⟨hx, -⟩ <;> (rw [h0] at hx; exact absurd hx (by decide))
    · obtain ⟨hy, hS⟩ := h.stop (s' := s) (k' := 3) h0
      rw [rowC_end h0, rowR_end hy]
      exact ⟨Nat.le_refl _, to, hS⟩
/-- between two states -/
def JRow (to : Nat → Option Nat) (I : pI) (J : pJ) (K : pI) (JK : pJ) (c f s : Nat) : Prop := JB I K c f ∧ JR I J K JK c f ∧ JD I J c f ∧ JS I J c f ∧ JE to I f (3 * s) ∧ (∀ s', s' < s → JK 79 s' = lN (ldN to s' 3)) ∧ JF I K f
theorem JRow.begin {to : Nat → Option Nat} {I K : pI} {J JK : pJ} {c f s : Nat} (hc : c ≤ 3) (h : JRow to I J K JK c f s) : JRel to I J K (upJ JK 79 s 0) c f s 0 := by
  obtain ⟨b1, r1, d1, s1, e1, l1, f1⟩ := h
  refine ⟨b1, fun s' hs' => ?_, d1, s1, e1, ⟨fun s' hs' => by rw [upJ_k (by omega)]; exact l1 s' hs', by rw [upJ_s]; rfl⟩, f1⟩
  obtain ⟨q1, q2, q3⟩ := r1 s' hs'
  refine ⟨q1, fun p hp => ?_, fun p h1 h2 => by rw [upJ_a (by omega)]; exact q3 p h1 h2⟩
  obtain ⟨r, q, w, l, t1, t2, t3⟩ := q2 p hp
  exact ⟨r, q, w, l, t1, t2, by rw [upJ_a (by omega)]; exact t3⟩
theorem JRel.close {to : Nat → Option Nat} {I K : pI} {J JK : pJ} {c f s : Nat} (h : JRel to I J K JK c f s 3) : JRow to I J K JK c f (s + 1) := by
  obtain ⟨b1, r1, d1, s1, e1, ⟨l1, l2⟩, f1⟩ := h
  refine ⟨b1, r1, d1, s1, e1, fun s' hs' => ?_, f1⟩
  rcases Nat.lt_or_ge s' s with h | h
  · exact l1 s' h
  · rw [show s' = s by omega]; exact l2
def SA (to : Nat → Option Nat) (c s : Nat) (x y : Int32 × Nat × pI × pJ) : Prop := x.2.1 = y.2.1 ∧ ((x.1 = 0 ∧ y.1 = -1 ∧ JRow to x.2.2.1 x.2.2.2 y.2.2.1 y.2.2.2 c x.2.1 s) ∨ (((x.1 = 1 ∧ y.1 = 1) ∨ (x.1 = 3 ∧ y.1 = 3)) ∧ JTr x.2.2.1 y.2.2.1 x.2.1))
def exRow (y : Int32 × Nat × pI × pJ) (c s : Nat) : Int32 × Nat × pI × pJ := rowR c s 3 0 (-1, y.2.1, y.2.2.1, upJ y.2.2.2 79 s 0)
def allC (c : Nat) : Nat → Nat → Int32 × Nat × pI × pJ → Int32 × Nat × pI × pJ
  | 0, _, x => x
  | m + 1, s, x => if s < x.2.1 ∧ x.1 = 0 then allC c m (s + 1) (rowC c s c 0 x) else x
def allR (c : Nat) : Nat → Nat → Int32 × Nat × pI × pJ → Int32 × Nat × pI × pJ
  | 0, _, x => x
  | m + 1, s, x => if s < x.2.1 ∧ x.1 = -1 then allR c m (s + 1) (exRow x c s) else x
theorem SA.row {to : Nat → Option Nat} {c s : Nat} {x y : Int32 × Nat × pI × pJ} (hc : c ≤ 3) (h : SA to c s x y) (hs : s < x.2.1) (h0 : x.1 = 0) : x.2.1 ≤ (rowC c s c 0 x).2.1 ∧ ∃ to', SA to' c (s + 1) (rowC c s c 0 x) (exRow y c s) ∧ SR to' c s 3 (rowC c s c 0 x) (exRow y c s) := by
  obtain ⟨e, h⟩ := h
  rcases h with ⟨-, hy, hJ⟩ | ⟨hx, -⟩
  · have hS : SR to c s 0 x (-1, y.2.1, y.2.2.1, upJ y.2.2.2 79 s 0) := ⟨e, Or.inl ⟨h0, rfl, hJ.begin hc⟩⟩
    obtain ⟨g1, to', g2⟩ := sim_row hc 3 0 to x _ rfl hs hS
    rw [Nat.sub_zero] at g1 g2
    refine ⟨g1, to', ?_, g2⟩
    obtain ⟨e', g2⟩ := g2
    refine ⟨e', ?_⟩
    rcases g2 with ⟨a, b, hj⟩ | g2
    · exact Or.inl ⟨a, b, hj.close⟩
    · exact Or.inr g2
  · rcases hx with ⟨hx, -⟩ | ⟨hx, -⟩ <;> (rw [h0] at hx; exact absurd hx (by decide))
theorem sim_all {c : Nat} (hc : c ≤ 3) : ∀ (m s : Nat) (to : Nat → Option Nat) (x y : Int32 × Nat × pI × pJ), s + m = 3000 → SA to c s x y → ∃ to' s', SA to' c s' (allC c m s x) (allR c m s y) ∧ ((allC c m s x).1 = 0 → (allC c m s x).2.1 ≤ s') := by
  intro m
  induction m with
  | zero =>
    intro s to x y hs h
    refine ⟨to, s, h, fun h0 => ?_⟩
    obtain ⟨e, h⟩ := h
    rcases h with ⟨-, -, hJ⟩ | ⟨-, hT⟩
    · have := hJ.1.2.2.1.1; exact Nat.le_trans this (by omega)
    · exact Nat.le_trans hT.1 (by omega)
  | succ m ih =>
    intro s to x y hs h
    rw [allC, allR]
    by_cases hg : s < x.2.1 ∧ x.1 = 0
    · obtain ⟨g1, to', g2, -⟩ := h.row hc hg.1 hg.2
      have hy : y.1 = -1 := by
        rcases h.2 with ⟨-, hy, -⟩ | ⟨hx, -⟩
        · exact hy
        · rcases hx with ⟨hx, -⟩ | ⟨hx, -⟩ <;> (rw [hg.2] at hx; exact absurd hx (by decide))
      rw [if_pos hg, if_pos ⟨by rw [← h.1]; exact hg.1, hy⟩]
      exact ih (s + 1) to' _ _ (by omega) g2
    · rw [if_neg hg, if_neg (fun z => hg (by
        refine ⟨by rw [h.1]; exact z.1, ?_⟩
        rcases h.2 with ⟨hx, -, -⟩ | ⟨hx, -⟩
        · exact hx
        · rcases hx with ⟨-, hx⟩ | ⟨-, hx⟩ <;> (rw [z.2] at hx; exact absurd hx (by decide))))]
      refine ⟨to, s, h, fun h0 => Nat.le_of_not_lt (fun z => hg ⟨z, h0⟩)⟩
