/-! THE JUDGES ALIKE: halls, moves, rows, slots -/
def QRel (I K : pI) (c p r q w l : Nat) : Prop := TV r q w l ∧ (I (52 + p) 0 = nI w ∧ I (52 + p) 1 = nI q ∧ I (52 + p) 2 = nI r) ∧ (K 68 (3 + p) = nI w ∧ K 69 (3 + p) = nI q ∧ (∀ j, j < 6 → K 70 (6 * (3 + p) + j) = nib (nI r) (nI j)) ∧ K 81 p = nI l) ∧ (p < c → I 55 p = nI l) ∧ (c ≤ p → r = 0 ∧ q = 0 ∧ w = 0 ∧ l = 0)
def QR (I K : pI) (c : Nat) : Prop := ∀ p, p < 3 → ∃ r q w l, QRel I K c p r q w l
theorem QRel.P {I K : pI} {c p r q w l : Nat} (h : QRel I K c p r q w l) : PRel I K (52 + p) (3 + p) := by
  obtain ⟨⟨b1, b2, b3, b4, b5⟩, ⟨i0, i1, i2⟩, ⟨k0, k1, k2, k3⟩, -⟩ := h
  exact ⟨w, q, b3, b2, i0, k0, i1, k1, fun j hj => by rw [i2, k2 j hj], ⟨by rw [i2]; exact nib_hi b1 (by decide) (by decide), by rw [i2]; exact nib_hi b1 (by decide) (by decide)⟩, fun z => ⟨(b5 z).1, by rw [i2, (b5 z).2]; rfl⟩⟩
theorem QR.pack {I K : pI} {c p : Nat} (h : QR I K c) (hp : p < 3) : ∃ r q w l, TV r q w l ∧ (p < c → cpp I p = lN (cN r q w l)) ∧ rpk K p = lN (rN r q w l) ∧ (c ≤ p → rpk K p = 0) := by
  obtain ⟨r, q, w, l, h1, ⟨i0, i1, i2⟩, ⟨k0, k1, k2, k3⟩, h4, h5⟩ := h p hp
  have e := rpk_N h1 k0 k1 k2 k3
  refine ⟨r, q, w, l, h1, fun z => cpp_N h1 i0 i1 i2 (h4 z), e, fun z => ?_⟩
  obtain ⟨rfl, rfl, rfl, rfl⟩ := h5 z
  exact e
theorem QR_of {I K : pI} {c : Nat} (h : HRel I K 50 8 3 c) (hl : ∀ p, p < c → ∃ l, l ≤ 3 ∧ I 55 p = nI l ∧ K 81 p = nI l) (hz : ∀ p, c ≤ p → p < 3 → I (52 + p) 0 = 0 ∧ K 81 p = 0) : QR I K c := by
  intro p hp
  obtain ⟨w, q, a1, a2, a3, a4, a5, a6, a7, a8, a9⟩ := h.1 p hp
  have a3' : I (52 + p) 0 = nI w := a3
  have a5' : I (52 + p) 1 = nI q := a5
  obtain ⟨r, hr, er⟩ := reg_r a8.1 a8.2
  have er' : I (52 + p) 2 = nI r := er
  have h0 : w = 0 → q = 0 ∧ r = 0 := fun z => ⟨(a9 z).1, by
    have e := (a9 z).2
    rw [er] at e
    exact (nI_eq (a := r) (b := 0) (by omega) (by decide)).mp e⟩
  have k2 : ∀ j, j < 6 → K 70 (6 * (3 + p) + j) = nib (nI r) (nI j) := fun j hj => by rw [← er, a7 j hj]
  by_cases hc : p < c
  · obtain ⟨l, hl3, e1, e2⟩ := hl p hc
    exact ⟨r, q, w, l, ⟨hr, a2, a1, hl3, h0⟩, ⟨a3', a5', er'⟩, ⟨a4, a6, k2, e2⟩, fun _ => e1, fun z => absurd z (by omega)⟩
  · obtain ⟨e1, e2⟩ := hz p (by omega) hp
    have hw : w = 0 := by
      rw [a3'] at e1
      exact (nI_eq (a := w) (b := 0) (by omega) (by decide)).mp e1
    exact ⟨r, q, w, 0, ⟨hr, a2, a1, by decide, h0⟩, ⟨a3', a5', er'⟩, ⟨a4, a6, k2, e2⟩, fun z => absurd z hc, fun _ => ⟨(h0 hw).2, (h0 hw).1, hw, rfl⟩⟩
theorem HRel.congr {I K I' K' : pI} {c : Nat} (h : HRel I K 50 8 3 c) (hI : ∀ x k, x < 55 → I' x k = I x k) (hK : ∀ x k, 64 ≤ x → x < 74 → K' x k = K x k) : HRel I' K' 50 8 3 c := by
  obtain ⟨r1, r2, r3, r4, r5, r6⟩ := h
  refine ⟨fun j hj => (r1 j hj).congr (hI _ _ (by omega)) (hI _ _ (by omega)) (hI _ _ (by omega)) (hK _ _ (by decide) (by decide)) (hK _ _ (by decide) (by decide)) (fun r hr => hK _ _ (by decide) (by decide)), fun k hk => by rw [hI _ _ (by decide), hK _ _ (by decide) (by decide)]; exact r2 k hk, r3.congr (fun i k hi => hI _ _ (by omega)) (fun k => hK _ _ (by decide) (by decide)), by rw [hI _ _ (by decide)]; exact r4, by rw [hK _ _ (by decide) (by decide)]; exact r5, fun z => absurd z (by decide)⟩
/-! a state is taken up, on both sides -/
def JB (I K : pI) (c f : Nat) : Prop := GRel I K ∧ (I 50 1 = nI c ∧ K 64 2 = nI c) ∧ (f ≤ 3000 ∧ I 48 2 = nI f ∧ K 64 12 = nI f) ∧ (∀ j, c ≤ j → j < 3 → I (52 + j) 0 = 0 ∧ I (52 + j) 1 = 0 ∧ I (52 + j) 2 = 0)
def JR (I : pI) (J : pJ) (K : pI) (JK : pJ) (c f : Nat) : Prop := ∀ s, s < f → I 56 s = K 74 s ∧ (∀ p, p < c → ∃ r q w l, TV r q w l ∧ J 57 (3 * s + p) = lN (cN r q w l) ∧ JK (75 + p) s = lN (rN r q w l)) ∧ (∀ p, c ≤ p → p < 3 → JK (75 + p) s = 0)
theorem open_rel {I K : pI} {J JK : pJ} {c f s : Nat} (hc : c ≤ 3) (hB : JB I K c f) (hR : JR I J K JK c f) (hs : s < f) : QR (rsI I J c s) (opI K JK s) c ∧ HRel (rsI I J c s) (opI K JK s) 50 8 3 c := by
  obtain ⟨hG, ⟨c1, c2⟩, -, hid⟩ := hB
  obtain ⟨w0, w1, w2⟩ := hR s hs
  have hQ : QR (rsI I J c s) (opI K JK s) c := by
    intro p hp
    by_cases hpc : p < c
    · obtain ⟨r, q, w, l, ht, e1, e2⟩ := w1 p hpc
      obtain ⟨i0, i1, i2, i3⟩ := rsL_own ht e1 c 0 (upI I 50 2 (I 56 s)) (by omega) (by omega) (by omega)
      obtain ⟨k0, k1, k2, k3⟩ := opI_own (K := K) hp ht e2
      exact ⟨r, q, w, l, ht, ⟨i0, i1, i2⟩, ⟨k0, k1, k2, k3⟩, fun _ => i3, fun z => absurd z (by omega)⟩
    · have ht : TV 0 0 0 0 := ⟨by decide, by decide, by decide, by decide, fun _ => ⟨rfl, rfl⟩⟩
      obtain ⟨k0, k1, k2, k3⟩ := opI_own (K := K) (J := JK) (s := s) hp ht (w2 p (by omega) hp)
      obtain ⟨z0, z1, z2⟩ := hid p (by omega) hp
      have e : ∀ k, rsI I J c s (52 + p) k = I (52 + p) k := fun k => rsI_o hc (by omega) (by omega) (Or.inl (by omega))
      exact ⟨0, 0, 0, 0, ht, ⟨by rw [e]; exact z0, by rw [e]; exact z1, by rw [e]; exact z2⟩, ⟨k0, k1, k2, k3⟩, fun z => absurd z hpc, fun _ => ⟨rfl, rfl, rfl, rfl⟩⟩
  refine ⟨hQ, fun j hj => ?_, fun k hk => ?_, ?_, ?_, ?_, fun z => absurd z (by decide)⟩
  · obtain ⟨r, q, w, l, h⟩ := hQ j hj
    exact h.P
  · rw [rsI_w hc, opI_w hk, w0]
  · exact hG.congr (fun i k hi => rsI_o hc (by omega) (by omega) (by omega)) (fun k => opI_o (by omega) (by omega) (by omega) (by omega) (by omega))
  · rw [rsI_o hc (by omega) (by omega) (by omega)]; exact c1
  · rw [opI_o (by omega) (by omega) (by omega) (by omega) (by omega)]; exact c2
/-! the move -/
abbrev skC (I : pI) (p : Nat) : Prop := I (52 + p) 0 = 4 ∨ (I (52 + p) 0 = 0 ∧ I 55 p = 0)
def lfC (I : pI) (p : Nat) : pI := if I (52 + p) 0 = 0 then upI I 55 p (I 55 p - 1) else I
def mvJ (I : pI) (c p : Nat) : pI := mvA (lfC I p) 50 p c
abbrev skR (K : pI) (k : Nat) : Prop := K 68 (3 + k) = 4 ∨ (K 68 (3 + k) = 0 ∧ K 81 k = 0)
def lfR (K : pI) (k : Nat) : pI := if K 68 (3 + k) = 0 then upI K 81 k (K 81 k - 1) else K
def moJ (K : pI) (c k : Nat) : pI := moI (lfR K k) (3 + k) 8 c
theorem sk_iff {I K : pI} {c p : Nat} (h : QR I K c) (hc : c ≤ 3) (hp : p < c) : skC I p ↔ skR K p := by
  obtain ⟨r, q, w, l, -, ⟨i0, -, -⟩, ⟨k0, -, -, k3⟩, h4, -⟩ := h p (by omega)
  unfold skC skR
  rw [i0, k0, k3, h4 hp]
theorem lfC_o {I : pI} {p a k : Nat} (h : a ≠ 55 ∨ k ≠ p) : lfC I p a k = I a k := by
  unfold lfC; split
  · exact h.elim (fun h => upI_a h) (fun h => upI_k h)
  · rfl
theorem lfR_o {K : pI} {p a k : Nat} (h : a ≠ 81 ∨ k ≠ p) : lfR K p a k = K a k := by
  unfold lfR; split
  · exact h.elim (fun h => upI_a h) (fun h => upI_k h)
  · rfl
theorem lf_rel {I K : pI} {c p : Nat} (hc : c ≤ 3) (hp : p < c) (hQ : QR I K c) (hs : ¬ skC I p) : ∃ l, l ≤ 3 ∧ lfC I p 55 p = nI l ∧ lfR K p 81 p = nI l := by
  obtain ⟨r, q, w, l, ⟨b1, b2, b3, b4, b5⟩, ⟨i0, -, -⟩, ⟨k0, -, -, k3⟩, h4, -⟩ := hQ p (by omega)
  unfold lfC lfR
  rw [i0, k0]
  by_cases hw : nI w = 0
  · rw [if_pos hw, if_pos hw, upI_s, upI_s, h4 hp, k3]
    have hl : l ≠ 0 := fun z => hs (Or.inr ⟨i0.trans hw, by rw [h4 hp, z]; rfl⟩)
    exact ⟨l - 1, by omega, pk_sub (b := 1) (by omega), pk_sub (b := 1) (by omega)⟩
  · rw [if_neg hw, if_neg hw]
    exact ⟨l, b4, h4 hp, k3⟩
theorem lf_H {I K : pI} {c p : Nat} (h : HRel I K 50 8 3 c) : HRel (lfC I p) (lfR K p) 50 8 3 c :=
  h.congr (fun x k hx => lfC_o (Or.inl (by omega))) (fun x k h1 h2 => lfR_o (Or.inl (by omega)))
theorem FP.moJ {K I : pI} {c p : Nat} (hc : c ≤ 3) (hp : p < c) (h : HRel I K 50 8 3 c) : FP (3 + p) (lfR K p) (moJ K c p) := by
  have h2 := lf_H (p := p) h
  have hP := h2.1 p (by omega)
  obtain ⟨w, q, -, a2, -, -, -, a6, -⟩ := id hP
  exact FP.mo (by omega) hc h2.2.2.1.PR ⟨q, a2, a6⟩ hP.RG h2.2.2.2.2.1 (by omega)
theorem move_rel {I K : pI} {c p : Nat} (hc : c ≤ 3) (hp : p < c) (hQ : QR I K c) (hH : HRel I K 50 8 3 c) (hs : ¬ skC I p) : QR (mvJ I c p) (moJ K c p) c ∧ HRel (mvJ I c p) (moJ K c p) 50 8 3 c := by
  have h2 := lf_H (p := p) hH
  have h3 : HRel (mvJ I c p) (moJ K c p) 50 8 3 c := sim_move h2 HB8 (by omega) hc
  have hF := FP.moJ hc hp hH
  have e55 : ∀ k, mvJ I c p 55 k = lfC I p 55 k := fun k => mvA_o (by omega) (Or.inl (by decide)) (Or.inr (Or.inr (by decide))) hc
  have e81 : ∀ k, moJ K c p 81 k = lfR K p 81 k := fun k => hF.1 81 k (Or.inr (by decide))
  refine ⟨QR_of h3 (fun p' hp' => ?_) (fun p' h1 h2 => ?_), h3⟩
  · rw [e55, e81]
    by_cases e : p' = p
    · subst e; exact lf_rel hc hp hQ hs
    · rw [lfC_o (Or.inr e), lfR_o (Or.inr e)]
      obtain ⟨r, q, w, l, ⟨b1, b2, b3, b4, b5⟩, -, ⟨-, -, -, k3⟩, h4, -⟩ := hQ p' (by omega)
      exact ⟨l, b4, h4 hp', k3⟩
  · obtain ⟨r, q, w, l, -, ⟨i0, -, -⟩, ⟨-, -, -, k3⟩, -, h5⟩ := hQ p' h2
    obtain ⟨rfl, rfl, rfl, rfl⟩ := h5 h1
    rw [e81, lfR_o (Or.inr (by omega)), k3]
    refine ⟨?_, rfl⟩
    unfold mvJ
    rw [mvA_o (by omega) (Or.inl (by omega)) (Or.inl (by decide)) hc, lfC_o (Or.inl (by omega)), i0]
    rfl
/-! the state is looked for, on both sides -/
theorem match_iff {I K : pI} {J JK : pJ} {c f s : Nat} (hc : c ≤ 3) (hQ : QR I K c) (hW : WRel I K 50 8) (hR : JR I J K JK c f) (hs : s < f) : isH I J c s ↔ (K 74 s = fdW K ∧ JK 75 s = rpk K 0 ∧ JK 76 s = rpk K 1 ∧ JK 77 s = rpk K 2) := by
  obtain ⟨w0, w1, w2⟩ := hR s hs
  have ew : fdW K = I 50 2 := pkR_all (by decide) (fun j hj => hW j hj) (fun j h1 h2 => absurd h2 (by omega))
  have hp : ∀ p, p < 3 → ((p < c → J 57 (3 * s + p) = cpp I p) ↔ JK (75 + p) s = rpk K p) := by
    intro p hp
    obtain ⟨r, q, w, l, t1, e1, e2, e3⟩ := hQ.pack hp
    by_cases hpc : p < c
    · obtain ⟨r', q', w', l', t2, g1, g2⟩ := w1 p hpc
      rw [g1, g2, e2, e1 hpc]
      refine ⟨fun z => (pack_eq t2 t1).mp (z hpc), fun z _ => (pack_eq t2 t1).mpr z⟩
    · rw [w2 p (by omega) hp, e3 (by omega)]
      exact ⟨fun _ => rfl, fun _ z => absurd z hpc⟩
  unfold isH
  rw [ew, w0]
  have p0 := hp 0 (by decide)
  have p1 := hp 1 (by decide)
  have p2 := hp 2 (by decide)
  refine ⟨fun z => ⟨z.1, p0.mp (z.2 0), p1.mp (z.2 1), p2.mp (z.2 2)⟩, fun z => ⟨z.1, fun p hpc => ?_⟩⟩
  rcases (show p = 0 ∨ p = 1 ∨ p = 2 by omega) with rfl | rfl | rfl
  · exact p0.mpr z.2.1 hpc
  · exact p1.mpr z.2.2.1 hpc
  · exact p2.mpr z.2.2.2 hpc
theorem fdL_hit {K : pI} {JK : pJ} {w : Int32} {x y z : Int64} {s0 : Nat} (h0 : K 74 s0 = w ∧ JK 75 s0 = x ∧ JK 76 s0 = y ∧ JK 77 s0 = z) : ∀ (m s : Nat), s ≤ s0 → s0 < s + m → (∀ j, j < s0 → s ≤ j → ¬ (K 74 j = w ∧ JK 75 j = x ∧ JK 76 j = y ∧ JK 77 j = z)) → fdL K JK w x y z m s = s0 := by
  intro m
  induction m with
  | zero => intro s h1 h2; omega
  | succ m ih =>
    intro s h1 h2 h3
    rw [fdL]
    by_cases e : s = s0
    · subst e; rw [if_pos h0]
    · rw [if_neg (h3 s (by omega) (Nat.le_refl _)), ih (s + 1) (by omega) (by omega) (fun j a b => h3 j a (by omega))]
theorem fdL_miss {K : pI} {JK : pJ} {w : Int32} {x y z : Int64} : ∀ (m s : Nat), (∀ j, s ≤ j → j < s + m → ¬ (K 74 j = w ∧ JK 75 j = x ∧ JK 76 j = y ∧ JK 77 j = z)) → fdL K JK w x y z m s = s + m := by
  intro m
  induction m with
  | zero => intro s _; rfl
  | succ m ih =>
    intro s h
    rw [fdL, if_neg (h s (Nat.le_refl _) (by omega)), ih (s + 1) (fun j a b => h j (by omega) (by omega))]
    omega
/-! slots -/
def mxJ (F : Int64 → Int64) (J : pJ) (s : Nat) : Nat → Nat → Int64 → Int64
  | 0, _, x => x
  | m + 1, p, x => mxJ F J s m (p + 1) (F x + J 57 (3 * s + p))
theorem mx_eq {F : Int64 → Int64} {I : pI} {J : pJ} {s c : Nat} (h : ∀ p, p < c → J 57 (3 * s + p) = cpp I p) : ∀ (m p : Nat) (x : Int64), p + m ≤ c → mxL F I m p x = mxJ F J s m p x := by
  intro m
  induction m with
  | zero => intro p x _; rfl
  | succ m ih => intro p x hp; rw [mxL, mxJ, h p (by omega), ih _ _ (by omega)]
def hsR (I : pI) (J : pJ) (c s : Nat) : Nat := hsN (mxJ mxS J s c 0 (I 56 s).toInt64)
theorem hs_eq {I : pI} {J : pJ} {c s : Nat} (h : isH I J c s) : hsI I c = hsR I J c s := by
  unfold hsI hsR
  rw [mx_eq h.2 c 0 _ (by omega), h.1]
def JD (I : pI) (J : pJ) (c f : Nat) : Prop := ∀ s s', s < f → s' < f → I 56 s = I 56 s' → (∀ p, p < c → J 57 (3 * s + p) = J 57 (3 * s' + p)) → s = s'
def cnt (I : pI) : Nat → Nat
  | 0 => 0
  | n + 1 => cnt I n + (if I 58 n = -1 then 0 else 1)
def JS (I : pI) (J : pJ) (c f : Nat) : Prop := (∀ t, t < 8192 → I 58 t = -1 ∨ ∃ s, s < f ∧ I 58 t = nI s) ∧ cnt I 8192 ≤ f ∧ (∀ s, s < f → ∃ j, j < 8192 ∧ I 58 ((hsR I J c s + j) % 8192) = nI s ∧ ∀ i, i < j → ¬ I 58 ((hsR I J c s + i) % 8192) = -1)
theorem cnt_full {I : pI} : ∀ n, (∀ t, t < n → ¬ I 58 t = -1) → cnt I n = n := by
  intro n
  induction n with
  | zero => intro _; rfl
  | succ n ih => intro h; rw [cnt, ih (fun t ht => h t (by omega)), if_neg (h n (by omega))]
theorem slF_hit {I : pI} {J : pJ} {c h s0 j : Nat} (hs0 : s0 < 2 ^ 31) (hj : I 58 ((h + j) % 8192) = nI s0) (h0 : isH I J c s0) (hb : ∀ i, i < j → ¬ I 58 ((h + i) % 8192) = -1) (hu : ∀ t, t < 8192 → ¬ I 58 t = -1 → isH I J c (I 58 t).toNatClampNeg → I 58 t = nI s0) : ∀ (d i m : Nat), i + d = j → d < m → I 58 (slF I J c m ((h + i) % 8192)) = nI s0 := by
  intro d
  induction d with
  | zero =>
    intro i m hi hm
    obtain ⟨m', rfl⟩ : ∃ m', m = m' + 1 := ⟨m - 1, by omega⟩
    rw [Nat.add_zero] at hi
    subst hi
    rw [slF, if_pos (Or.inr (by rw [hj, nI_clamp hs0]; exact h0))]
    exact hj
  | succ d ih =>
    intro i m hi hm
    obtain ⟨m', rfl⟩ : ∃ m', m = m' + 1 := ⟨m - 1, by omega⟩
    rw [slF]
    have hne := hb i (by omega)
    split
    · rename_i z
      rcases z with z | z
      · exact absurd z hne
      · exact hu _ (Nat.mod_lt _ (by decide)) hne z
    · rw [show ((h + i) % 8192 + 1) % 8192 = (h + (i + 1)) % 8192 by omega]
      exact ih (i + 1) m' (by omega) (by omega)
theorem slF_new {I : pI} {J : pJ} {c h j : Nat} (hj : I 58 ((h + j) % 8192) = -1) (hn : ∀ t, t < 8192 → ¬ I 58 t = -1 → ¬ isH I J c (I 58 t).toNatClampNeg) : ∀ (d i m : Nat), i + d = j → d < m → (∀ i', i' < i → ¬ I 58 ((h + i') % 8192) = -1) → ∃ k, k ≤ j ∧ slF I J c m ((h + i) % 8192) = (h + k) % 8192 ∧ I 58 ((h + k) % 8192) = -1 ∧ ∀ i', i' < k → ¬ I 58 ((h + i') % 8192) = -1 := by
  intro d
  induction d with
  | zero =>
    intro i m hi hm hb
    obtain ⟨m', rfl⟩ : ∃ m', m = m' + 1 := ⟨m - 1, by omega⟩
    rw [Nat.add_zero] at hi
    subst hi
    exact ⟨i, Nat.le_refl _, by rw [slF, if_pos (Or.inl hj)], hj, hb⟩
  | succ d ih =>
    intro i m hi hm hb
    obtain ⟨m', rfl⟩ : ∃ m', m = m' + 1 := ⟨m - 1, by omega⟩
    by_cases hz : I 58 ((h + i) % 8192) = -1
    · exact ⟨i, by omega, by rw [slF, if_pos (Or.inl hz)], hz, hb⟩
    · rw [slF, if_neg (fun z => z.elim hz (hn _ (Nat.mod_lt _ (by decide)) hz)), show ((h + i) % 8192 + 1) % 8192 = (h + (i + 1)) % 8192 by omega]
      exact ih (i + 1) m' (by omega) (by omega) (fun i' hi' => by
        rcases Nat.lt_or_ge i' i with h9 | h9
        · exact hb i' h9
        · rw [show i' = i by omega]; exact hz)
theorem slF_lt {I : pI} {J : pJ} {c : Nat} : ∀ (m t : Nat), t < 8192 → slF I J c m t < 8192 := by
  intro m
  induction m with
  | zero => intro t h; exact h
  | succ m ih =>
    intro t h
    rw [slF]
    split
    · exact h
    · exact ih _ (Nat.mod_lt _ (by decide))
theorem slN_lt {I : pI} {J : pJ} {c : Nat} : slN I J c < 8192 := slF_lt _ _ (hsN_lt _)
theorem find_alike {I K : pI} {J JK : pJ} {c f : Nat} (hc : c ≤ 3) (hf : f ≤ 3000) (hQ : QR I K c) (hW : WRel I K 50 8) (hR : JR I J K JK c f) (hD : JD I J c f) (hS : JS I J c f) :
    (∃ s0, s0 < f ∧ fdN K JK f = s0 ∧ I 58 (slN I J c) = nI s0) ∨ (fdN K JK f = f ∧ I 58 (slN I J c) = -1 ∧ (∀ s, s < f → ¬ isH I J c s) ∧ ∃ k, k < 8192 ∧ slN I J c = (hsI I c + k) % 8192 ∧ ∀ i, i < k → ¬ I 58 ((hsI I c + i) % 8192) = -1) := by
  obtain ⟨s1, s2, s3⟩ := hS
  have hh := hsN_lt (mxL mxS I c 0 (I 50 2).toInt64)
  by_cases hex : ∃ s, s < f ∧ isH I J c s
  · left
    obtain ⟨s0, hs0, h0⟩ := hex
    have huni : ∀ s, s < f → isH I J c s → s = s0 := fun s hs h => hD s s0 hs hs0 (h.1.trans h0.1.symm) (fun p hp => (h.2 p hp).trans (h0.2 p hp).symm)
    refine ⟨s0, hs0, ?_, ?_⟩
    · exact fdL_hit ((match_iff hc hQ hW hR hs0).mp h0) f 0 (by omega) (by omega) (fun j hj _ z => absurd (huni j (by omega) ((match_iff hc hQ hW hR (by omega)).mpr z)) (by omega))
    · obtain ⟨j, hj8, hj, hb⟩ := s3 s0 hs0
      rw [← hs_eq h0] at hj hb
      have := slF_hit (h := hsI I c) (by omega) hj h0 hb (fun t ht hne h => by
        rcases s1 t ht with z | ⟨s, hs, es⟩
        · exact absurd z hne
        · rw [es, nI_clamp (by omega)] at h
          rw [es, huni s hs h]) j 0 8192 (by omega) (by omega)
      rw [Nat.add_zero, Nat.mod_eq_of_lt (show hsI I c < 8192 from hh)] at this
      exact this
  · right
    have hno : ∀ s, s < f → ¬ isH I J c s := fun s hs h => hex ⟨s, hs, h⟩
    have hemp : ∃ t, t < 8192 ∧ I 58 t = -1 := Classical.byContradiction (fun z => by
      have := cnt_full 8192 (I := I) (fun t ht e => z ⟨t, ht, e⟩)
      omega)
    obtain ⟨t, ht, et⟩ := hemp
    have hhI : hsI I c < 8192 := hh
    obtain ⟨k, hk, e1, e2, e3⟩ := slF_new (J := J) (c := c) (h := hsI I c) (j := (t + 8192 - hsI I c) % 8192) (by rw [show (hsI I c + (t + 8192 - hsI I c) % 8192) % 8192 = t by omega]; exact et) (fun t ht hne h => by
        rcases s1 t ht with z | ⟨s, hs, es⟩
        · exact hne z
        · rw [es, nI_clamp (by omega)] at h
          exact hno s hs h) ((t + 8192 - hsI I c) % 8192) 0 8192 (by omega) (by omega) (fun i' hi' => absurd hi' (by omega))
    rw [Nat.add_zero, Nat.mod_eq_of_lt hhI] at e1
    have e1' : slN I J c = (hsI I c + k) % 8192 := e1
    refine ⟨?_, by rw [e1']; exact e2, hno, k, by omega, e1', e3⟩
    have := fdL_miss (K := K) (JK := JK) (w := fdW K) (x := rpk K 0) (y := rpk K 1) (z := rpk K 2) f 0 (fun j _ hj z => hno j (by omega) ((match_iff hc hQ hW hR (by omega)).mpr z))
    rw [Nat.zero_add] at this
    exact this
