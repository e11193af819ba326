/-! THE JUDGES ALIKE: moves are noted, rows added -/
def lst (to : Nat → Option Nat) (t : Nat) : Nat → Int32
  | 0 => -1
  | m + 1 => if to m = some t then nI m else lst to t m
def dg (o : Option Nat) : Nat := match o with
  | some t => t
  | none => 4095
def ldN (to : Nat → Option Nat) (s : Nat) : Nat → Nat
  | 0 => 0
  | k + 1 => ldN to s k * 4096 + dg (to (3 * s + k))
def upT (to : Nat → Option Nat) (m : Nat) (o : Option Nat) : Nat → Option Nat := fun m' => if m' = m then o else to m'
theorem upT_s {to : Nat → Option Nat} {m : Nat} {o : Option Nat} : upT to m o m = o := if_pos rfl
theorem upT_n {to : Nat → Option Nat} {m m' : Nat} {o : Option Nat} (h : m' ≠ m) : upT to m o m' = to m' := if_neg h
theorem lst_up {to : Nat → Option Nat} {t M : Nat} {o : Option Nat} : ∀ m, m ≤ M → lst (upT to M o) t m = lst to t m := by
  intro m
  induction m with
  | zero => intro _; rfl
  | succ m ih => intro h; rw [lst, lst, upT_n (by omega), ih (by omega)]
theorem ldN_up {to : Nat → Option Nat} {s M : Nat} {o : Option Nat} : ∀ k, 3 * s + k ≤ M → ldN (upT to M o) s k = ldN to s k := by
  intro k
  induction k with
  | zero => intro _; rfl
  | succ k ih => intro h; rw [ldN, ldN, upT_n (by omega), ih (by omega)]
theorem lst_none {to : Nat → Option Nat} {t : Nat} : ∀ M, (∀ m, m < M → to m ≠ some t) → lst to t M = -1 := by
  intro M
  induction M with
  | zero => intro _; rfl
  | succ m ih => intro h; rw [lst, if_neg (h m (by omega)), ih (fun m' hm => h m' (by omega))]
def JE (to : Nat → Option Nat) (I : pI) (f M : Nat) : Prop := (∀ t, t < f → I 60 t = lst to t M) ∧ (∀ m t, m < M → to m = some t → t < f ∧ I 61 m = lst to t m)
def JL (to : Nat → Option Nat) (JK : pJ) (s k : Nat) : Prop := (∀ s', s' < s → JK 79 s' = lN (ldN to s' 3)) ∧ (k ≠ 0 → JK 79 s = lN (ldN to s k))
def JF (I K : pI) (f : Nat) : Prop := ∀ s, 0 < s → s < f → ∃ s0 k, s0 < s ∧ k < 3 ∧ I 59 s = nI (3 * s0 + k) ∧ K 78 s = nI (4 * s0 + k)
/-- both judges, where the moves before 3 s + k are made; z: the row of leads is begun -/
def JRel (to : Nat → Option Nat) (I : pI) (J : pJ) (K : pI) (JK : pJ) (c f s k : Nat) : Prop :=
  JB I K c f ∧ JR I J K JK c f ∧ JD I J c f ∧ JS I J c f ∧ JE to I f (3 * s + k) ∧ ((∀ s', s' < s → JK 79 s' = lN (ldN to s' 3)) ∧ JK 79 s = lN (ldN to s k)) ∧ JF I K f
def JTr (I K : pI) (f : Nat) : Prop := f ≤ 3000 ∧ I 48 2 = nI f ∧ K 64 12 = nI f ∧ JF I K f
/-- the halls don't matter -/
theorem JRel.hall {to : Nat → Option Nat} {I I' K K' : pI} {J JK : pJ} {c f s k : Nat} (h : JRel to I J K JK c f s k) (hI : ∀ a i, (a < 50 ∨ 56 ≤ a) → I' a i = I a i) (h50 : I' 50 1 = I 50 1) (hid : ∀ j, c ≤ j → j < 3 → I' (52 + j) 0 = 0 ∧ I' (52 + j) 1 = 0 ∧ I' (52 + j) 2 = 0) (hK : ∀ a i, (a < 67 ∨ (73 < a ∧ a ≠ 81)) → K' a i = K a i) : JRel to I' J K' JK c f s k := by
  obtain ⟨⟨b1, ⟨b2, b3⟩, ⟨b4, b5, b6⟩, b7⟩, r1, d1, ⟨s1, s2, s3⟩, ⟨e1, e2⟩, l1, f1⟩ := h
  have h56 : ∀ i, I' 56 i = I 56 i := fun i => hI 56 i (by omega)
  have h58 : ∀ i, I' 58 i = I 58 i := fun i => hI 58 i (by omega)
  have hcnt : ∀ n, cnt I' n = cnt I n := by
    intro n
    induction n with
    | zero => rfl
    | succ n ih => rw [cnt, cnt, ih, h58]
  have hh : ∀ s, hsR I' J c s = hsR I J c s := fun s => by unfold hsR; rw [h56]
  refine ⟨⟨b1.congr (fun i k hi => hI _ _ (by omega)) (fun k => hK _ _ (by omega)), ⟨by rw [h50]; exact b2, by rw [hK 64 2 (by omega)]; exact b3⟩, ⟨b4, by rw [hI 48 2 (by omega)]; exact b5, by rw [hK 64 12 (by omega)]; exact b6⟩, hid⟩, fun s hs => ?_, fun s s' h1 h2 h3 h4 => d1 s s' h1 h2 (by rw [← h56, ← h56]; exact h3) h4, ⟨fun t ht => by rw [h58]; exact s1 t ht, by rw [hcnt]; exact s2, fun s hs => ?_⟩, ⟨fun t ht => by rw [hI 60 t (by omega)]; exact e1 t ht, fun m t h1 h2 => by rw [hI 61 m (by omega)]; exact e2 m t h1 h2⟩, l1, fun s h1 h2 => ?_⟩
  · rw [h56, hK 74 s (by omega)]; exact r1 s hs
  · obtain ⟨j, j1, j2, j3⟩ := s3 s hs
    exact ⟨j, j1, by rw [hh, h58]; exact j2, fun i hi => by rw [hh, h58]; exact j3 i hi⟩
  · rw [hI 59 s (by omega), hK 78 s (by omega)]; exact f1 s h1 h2
def ldJ (JK : pJ) (s t : Nat) : pJ := upJ JK 79 s (JK 79 s * 4096 + lN t)
theorem ld_step {to : Nat → Option Nat} {JK JK' : pJ} {s k t : Nat} {o : Option Nat} (hl : (∀ s', s' < s → JK 79 s' = lN (ldN to s' 3)) ∧ JK 79 s = lN (ldN to s k)) (hk : k < 3) (ho : dg o = t) (hJ : ∀ i, JK' 79 i = JK 79 i) : (∀ s', s' < s → ldJ JK' s t 79 s' = lN (ldN (upT to (3 * s + k) o) s' 3)) ∧ ldJ JK' s t 79 s = lN (ldN (upT to (3 * s + k) o) s (k + 1)) := by
  refine ⟨fun s' hs => ?_, ?_⟩
  · unfold ldJ
    rw [upJ_k (by omega), hJ, ldN_up 3 (by omega)]
    exact hl.1 s' hs
  · unfold ldJ
    rw [upJ_s, hJ, hl.2, ldN, ldN_up k (by omega), upT_s, ho, show (4096 : Int64) = lN 4096 by rfl, lN_mul, lN_add]
theorem JR.ld {I K : pI} {J JK : pJ} {c f s t : Nat} (hc : c ≤ 3) (h : JR I J K JK c f) : JR I J K (ldJ JK s t) c f := by
  intro s' hs'
  obtain ⟨a, b, d⟩ := h s' hs'
  have e : ∀ p, p < 3 → ldJ JK s t (75 + p) s' = JK (75 + p) s' := fun p hp => by unfold ldJ; exact upJ_a (by omega)
  refine ⟨a, fun p hp => ?_, fun p h1 h2 => by rw [e p h2]; exact d p h1 h2⟩
  obtain ⟨r, q, w, l, t1, t2, t3⟩ := b p hp
  exact ⟨r, q, w, l, t1, t2, by rw [e p (by omega)]; exact t3⟩
/-- no move is made -/
theorem JRel.skip {to : Nat → Option Nat} {I K : pI} {J JK : pJ} {c f s k : Nat} (hc : c ≤ 3) (hk : k < 3) (h : JRel to I J K JK c f s k) : JRel (upT to (3 * s + k) none) I J K (ldJ JK s 4095) c f s (k + 1) := by
  obtain ⟨b1, r1, d1, s1, ⟨e1, e2⟩, l1, f1⟩ := h
  refine ⟨b1, r1.ld hc, d1, s1, ⟨fun t ht => ?_, fun m t h1 h2 => ?_⟩, ld_step l1 hk rfl (fun _ => rfl), f1⟩
  · rw [← Nat.add_assoc, lst, upT_s, if_neg (by intro z; cases z), lst_up _ (Nat.le_refl _)]
    exact e1 t ht
  · by_cases e : m = 3 * s + k
    · subst e; rw [upT_s] at h2; cases h2
    · rw [upT_n e] at h2
      rw [lst_up _ (by omega)]
      exact e2 m t (by omega) h2
/-- a move to a state that is known -/
theorem JRel.old {to : Nat → Option Nat} {I K : pI} {J JK : pJ} {c f s k t : Nat} (hc : c ≤ 3) (hk : k < 3) (h : JRel to I J K JK c f s k) (ht : t < f) : JRel (upT to (3 * s + k) (some t)) (ntI I (3 * s + k) t) J K (ldJ JK s t) c f s (k + 1) := by
  obtain ⟨b1, r1, d1, s1, ⟨e1, e2⟩, l1, f1⟩ := h
  have ho : ∀ a i, a ≠ 60 → a ≠ 61 → ntI I (3 * s + k) t a i = I a i := fun a i h1 h2 => by unfold ntI; rw [upI_a h1, upI_a h2]
  have hcnt : ∀ n, cnt (ntI I (3 * s + k) t) n = cnt I n := by
    intro n
    induction n with
    | zero => rfl
    | succ n ih => rw [cnt, cnt, ih, ho 58 _ (by decide) (by decide)]
  have hh : ∀ s', hsR (ntI I (3 * s + k) t) J c s' = hsR I J c s' := fun s' => by unfold hsR; rw [ho 56 _ (by decide) (by decide)]
  refine ⟨⟨b1.1.congr (fun i k hi => ho _ _ (by omega) (by omega)) (fun _ => rfl), ⟨by rw [ho 50 _ (by decide) (by decide)]; exact b1.2.1.1, b1.2.1.2⟩, ⟨b1.2.2.1.1, by rw [ho 48 _ (by decide) (by decide)]; exact b1.2.2.1.2.1, b1.2.2.1.2.2⟩, fun j h1 h2 => by rw [ho _ _ (by omega) (by omega), ho _ _ (by omega) (by omega), ho _ _ (by omega) (by omega)]; exact b1.2.2.2 j h1 h2⟩, ?_, ?_, ?_, ⟨fun t' ht' => ?_, fun m t' h1 h2 => ?_⟩, ld_step l1 hk rfl (fun _ => rfl), ?_⟩
  · intro s' hs'
    rw [ho 56 _ (by decide) (by decide)]
    exact r1.ld hc s' hs'
  · intro s1 s2 h1 h2 h3 h4
    rw [ho 56 _ (by decide) (by decide), ho 56 _ (by decide) (by decide)] at h3
    exact d1 s1 s2 h1 h2 h3 h4
  · obtain ⟨q1, q2, q3⟩ := s1
    refine ⟨fun t ht => by rw [ho 58 _ (by decide) (by decide)]; exact q1 t ht, by rw [hcnt]; exact q2, fun s' hs' => ?_⟩
    obtain ⟨j, j1, j2, j3⟩ := q3 s' hs'
    exact ⟨j, j1, by rw [hh, ho 58 _ (by decide) (by decide)]; exact j2, fun i hi => by rw [hh, ho 58 _ (by decide) (by decide)]; exact j3 i hi⟩
  · rw [← Nat.add_assoc, lst, upT_s]
    by_cases e : t = t'
    · subst e
      rw [if_pos rfl]
      unfold ntI; exact upI_s _ _ _ _
    · rw [if_neg (fun z => e (Option.some.inj z)), lst_up _ (Nat.le_refl _)]
      unfold ntI
      rw [upI_k (fun z => e z.symm), upI_a (by decide)]
      exact e1 t' ht'
  · by_cases e : m = 3 * s + k
    · subst e
      rw [upT_s] at h2
      cases h2
      refine ⟨ht, ?_⟩
      rw [lst_up _ (Nat.le_refl _)]
      unfold ntI
      rw [upI_a (by decide), upI_s]
      exact e1 t ht
    · rw [upT_n e] at h2
      rw [lst_up _ (by omega)]
      unfold ntI
      rw [upI_a (by decide), upI_k e]
      exact e2 m t' (by omega) h2
  · intro s' h1 h2
    rw [ho 59 _ (by decide) (by decide)]
    exact f1 s' h1 h2
def nwI (I : pI) (J : pJ) (c s p f : Nat) : pI := ntI (adB I (slN I J c) f (nI (3 * s + p))) (3 * s + p) f
def nwK (K : pI) (s k f : Nat) : pI := upI (upI (fdK K f) 78 f (nI (4 * s + k))) 64 12 (nI (f + 1))
theorem adJ_o {I : pI} {f i : Nat} : ∀ (m p : Nat) (J : pJ), (i < 3 * f + p ∨ 3 * f + p + m ≤ i) → adJ I f m p J 57 i = J 57 i := by
  intro m
  induction m with
  | zero => intro p J _; rfl
  | succ m ih => intro p J h; rw [adJ, ih (p + 1) _ (by omega), upJ_k (by omega)]
theorem adJ_own {I : pI} {f j : Nat} : ∀ (m p : Nat) (J : pJ), p ≤ j → j < p + m → adJ I f m p J 57 (3 * f + j) = cpp I j := by
  intro m
  induction m with
  | zero => intro p J h1 h2; omega
  | succ m ih =>
    intro p J h1 h2
    rw [adJ]
    by_cases e : p = j
    · subst e; rw [adJ_o m (p + 1) _ (by omega), upJ_s]
    · exact ih (p + 1) _ (by omega) (by omega)
theorem adJ_a {I : pI} {f a i : Nat} (ha : a ≠ 57) : ∀ (m p : Nat) (J : pJ), adJ I f m p J a i = J a i := by
  intro m
  induction m with
  | zero => intro p J; rfl
  | succ m ih => intro p J; rw [adJ, ih, upJ_a ha]
theorem nwI_o {I : pI} {J : pJ} {c s p f a i : Nat} (h : a < 48 ∨ 61 < a ∨ a = 50 ∨ a = 52 ∨ a = 53 ∨ a = 54 ∨ a = 55 ∨ a = 57) : nwI I J c s p f a i = I a i := by
  unfold nwI ntI adB adA
  rw [upI_a (by omega), upI_a (by omega), upI_a (by omega), upI_a (by omega), upI_a (by omega), upI_a (by omega), upI_a (by omega)]
theorem nwI_58 {I : pI} {J : pJ} {c s p f i : Nat} : nwI I J c s p f 58 i = if i = slN I J c then nI f else I 58 i := by
  unfold nwI ntI adB adA
  rw [upI_a (by decide), upI_a (by decide), upI_a (by decide), upI_a (by decide), upI_a (by decide)]
  by_cases e : i = slN I J c
  · rw [if_pos e, e, upI_s]
  · rw [if_neg e, upI_k e, upI_a (by decide)]
theorem nwI_56 {I : pI} {J : pJ} {c s p f i : Nat} : nwI I J c s p f 56 i = if i = f then I 50 2 else I 56 i := by
  unfold nwI ntI adB adA
  rw [upI_a (by decide), upI_a (by decide), upI_a (by decide), upI_a (by decide)]
  by_cases e : i = f
  · rw [if_pos e, e, upI_s]
  · rw [if_neg e, upI_k e, upI_a (by decide), upI_a (by decide)]
theorem nwI_59 {I : pI} {J : pJ} {c s p f i : Nat} : nwI I J c s p f 59 i = if i = f then nI (3 * s + p) else I 59 i := by
  unfold nwI ntI adB adA
  rw [upI_a (by decide), upI_a (by decide), upI_a (by decide)]
  by_cases e : i = f
  · rw [if_pos e, e, upI_s]
  · rw [if_neg e, upI_k e, upI_a (by decide), upI_a (by decide), upI_a (by decide)]
theorem nwI_60 {I : pI} {J : pJ} {c s p f i : Nat} : nwI I J c s p f 60 i = if i = f then nI (3 * s + p) else I 60 i := by
  unfold nwI ntI adB adA
  by_cases e : i = f
  · rw [if_pos e, e, upI_s]
  · rw [if_neg e, upI_k e, upI_a (by decide), upI_k e, upI_a (by decide), upI_a (by decide), upI_a (by decide), upI_a (by decide)]
theorem nwI_61 {I : pI} {J : pJ} {c s p f i : Nat} : nwI I J c s p f 61 i = if i = 3 * s + p then -1 else I 61 i := by
  unfold nwI ntI adB adA
  rw [upI_a (by decide)]
  by_cases e : i = 3 * s + p
  · rw [if_pos e, e, upI_s, upI_s]
  · rw [if_neg e, upI_k e, upI_a (by decide), upI_a (by decide), upI_a (by decide), upI_a (by decide), upI_a (by decide)]
theorem nwI_48 {I : pI} {J : pJ} {c s p f : Nat} : nwI I J c s p f 48 2 = nI (f + 1) := by
  unfold nwI ntI adB adA
  rw [upI_a (by decide), upI_a (by decide), upI_a (by decide), upI_a (by decide), upI_a (by decide), upI_a (by decide), upI_s]
theorem nwK_o {K : pI} {s k f a i : Nat} (h : a ≠ 74) (h2 : a ≠ 78) (h3 : a ≠ 64 ∨ i ≠ 12) : nwK K s k f a i = K a i := by
  unfold nwK fdK
  rw [h3.elim (fun h => upI_a h) (fun h => upI_k h), upI_a h2, upI_a h]
theorem nwK_74 {K : pI} {s k f i : Nat} : nwK K s k f 74 i = if i = f then fdW K else K 74 i := by
  unfold nwK fdK
  rw [upI_a (by decide), upI_a (by decide)]
  by_cases e : i = f
  · rw [if_pos e, e, upI_s]
  · rw [if_neg e, upI_k e]
theorem nwK_78 {K : pI} {s k f i : Nat} : nwK K s k f 78 i = if i = f then nI (4 * s + k) else K 78 i := by
  unfold nwK fdK
  rw [upI_a (by decide)]
  by_cases e : i = f
  · rw [if_pos e, e, upI_s]
  · rw [if_neg e, upI_k e, upI_a (by decide)]
theorem fdJ_p {K : pI} {JK : pJ} {f p i : Nat} (hp : p < 3) : fdJ K JK f (75 + p) i = if i = f then rpk K p else JK (75 + p) i := by
  unfold fdJ
  rcases (show p = 0 ∨ p = 1 ∨ p = 2 by omega) with rfl | rfl | rfl
  · rw [upJ_a (by decide), upJ_a (by decide)]
    by_cases e : i = f
    · rw [if_pos e, e, upJ_s]
    · rw [if_neg e, upJ_k e]
  · rw [upJ_a (by decide)]
    by_cases e : i = f
    · rw [if_pos e, e, upJ_s]
    · rw [if_neg e, upJ_k e, upJ_a (by decide)]
  · by_cases e : i = f
    · rw [if_pos e, e, upJ_s]
    · rw [if_neg e, upJ_k e, upJ_a (by decide), upJ_a (by decide)]
theorem cnt_up {I I' : pI} {t : Nat} (h : ∀ i, i ≠ t → I' 58 i = I 58 i) : ∀ n, cnt I' n ≤ cnt I n + (if t < n then 1 else 0) := by
  intro n
  induction n with
  | zero => exact Nat.zero_le _
  | succ n ih =>
    rw [cnt, cnt]
    by_cases e : n = t
    · subst e
      rw [if_neg (Nat.lt_irrefl _)] at ih
      rw [if_pos (Nat.lt_succ_self _)]
      split <;> split <;> omega
    · rw [h n e]
      by_cases h1 : t < n
      · rw [if_pos h1] at ih; rw [if_pos (show t < n + 1 by omega)]; omega
      · rw [if_neg h1] at ih; rw [if_neg (show ¬ t < n + 1 by omega)]; omega
/-- a row is added -/
theorem JRel.new {to : Nat → Option Nat} {I K : pI} {J JK : pJ} {c f s k : Nat} (hc : c ≤ 3) (hk : k < 3) (hs : s < f) (h : JRel to I J K JK c f s k) (hf : f < 3000) (hQ : QR I K c) (hW : WRel I K 50 8) (hz : I 58 (slN I J c) = -1) (hno : ∀ s, s < f → ¬ isH I J c s) (hsl : ∃ j, j < 8192 ∧ slN I J c = (hsI I c + j) % 8192 ∧ ∀ i, i < j → ¬ I 58 ((hsI I c + i) % 8192) = -1) :
    JRel (upT to (3 * s + k) (some f)) (nwI I J c s k f) (adJ I f c 0 J) (nwK K s k f) (ldJ (fdJ K JK f) s f) c (f + 1) s (k + 1) := by
  obtain ⟨⟨b1, ⟨b2, b3⟩, ⟨b4, b5, b6⟩, b7⟩, r1, d1, ⟨s1, s2, s3⟩, ⟨e1, e2⟩, l1, f1⟩ := h
  have ew : fdW K = I 50 2 := pkR_all (by decide) (fun j hj => hW j hj) (fun j h1 h2 => absurd h2 (by omega))
  have jo : ∀ s' p, s' < f → p < c → adJ I f c 0 J 57 (3 * s' + p) = J 57 (3 * s' + p) := fun s' p h1 h2 => adJ_o c 0 J (by omega)
  have jn : ∀ p, p < c → adJ I f c 0 J 57 (3 * f + p) = cpp I p := fun p h => adJ_own c 0 J (by omega) (by omega)
  have wo : ∀ s', s' < f → nwI I J c s k f 56 s' = I 56 s' := fun s' h => by rw [nwI_56, if_neg (by omega)]
  have wn : nwI I J c s k f 56 f = I 50 2 := by rw [nwI_56, if_pos rfl]
  have mxo : ∀ s', s' < f → ∀ (m p : Nat) (x : Int64), p + m ≤ c → mxJ mxS (adJ I f c 0 J) s' m p x = mxJ mxS J s' m p x := by
    intro s' hs' m
    induction m with
    | zero => intro p x _; rfl
    | succ m ih => intro p x hp; rw [mxJ, mxJ, jo s' p hs' (by omega), ih _ _ (by omega)]
  have ho : ∀ s', s' < f → hsR (nwI I J c s k f) (adJ I f c 0 J) c s' = hsR I J c s' := fun s' h => by unfold hsR; rw [wo s' h, mxo s' h c 0 _ (by omega)]
  have hn : hsR (nwI I J c s k f) (adJ I f c 0 J) c f = hsI I c := by
    unfold hsR hsI
    rw [wn, mx_eq (J := adJ I f c 0 J) (s := f) jn c 0 _ (by omega)]
  refine ⟨⟨b1.congr (fun i k hi => nwI_o (by omega)) (fun k => nwK_o (by decide) (by decide) (by omega)), ⟨by rw [nwI_o (by omega)]; exact b2, by rw [nwK_o (by decide) (by decide) (by omega)]; exact b3⟩, ⟨by omega, nwI_48, by unfold nwK; exact upI_s _ _ _ _⟩, fun j h1 h2 => by rw [nwI_o (by omega), nwI_o (by omega), nwI_o (by omega)]; exact b7 j h1 h2⟩, ?_, ?_, ⟨?_, ?_, ?_⟩, ⟨?_, ?_⟩, ?_, ?_⟩
  · refine JR.ld hc ?_
    intro s' hs'
    by_cases e : s' = f
    · subst e
      rw [wn, nwK_74, if_pos rfl, ew]
      refine ⟨rfl, fun p hp => ?_, fun p h1 h2 => ?_⟩
      · obtain ⟨r, q, w, l, t1, t2, t3, -⟩ := hQ.pack (show p < 3 by omega)
        exact ⟨r, q, w, l, t1, by rw [jn p hp]; exact t2 hp, by rw [fdJ_p (by omega), if_pos rfl]; exact t3⟩
      · obtain ⟨r, q, w, l, t1, t2, t3, t4⟩ := hQ.pack h2
        rw [fdJ_p h2, if_pos rfl]; exact t4 h1
    · obtain ⟨q1, q2, q3⟩ := r1 s' (by omega)
      rw [wo s' (by omega), nwK_74, if_neg e]
      refine ⟨q1, fun p hp => ?_, fun p h1 h2 => by rw [fdJ_p h2, if_neg e]; exact q3 p h1 h2⟩
      obtain ⟨r, q, w, l, t1, t2, t3⟩ := q2 p hp
      exact ⟨r, q, w, l, t1, by rw [jo s' p (by omega) hp]; exact t2, by rw [fdJ_p (by omega), if_neg e]; exact t3⟩
  · intro x y hx hy h3 h4
    by_cases ex : x = f
    · by_cases ey : y = f
      · rw [ex, ey]
      · exfalso
        rw [ex, wn, wo y (by omega)] at h3
        refine hno y (by omega) ⟨h3.symm, fun p hp => ?_⟩
        have := h4 p hp
        rw [ex, jn p hp, jo y p (by omega) hp] at this
        exact this.symm
    · by_cases ey : y = f
      · exfalso
        rw [ey, wn, wo x (by omega)] at h3
        refine hno x (by omega) ⟨h3, fun p hp => ?_⟩
        have := h4 p hp
        rw [ey, jn p hp, jo x p (by omega) hp] at this
        exact this
      · rw [wo x (by omega), wo y (by omega)] at h3
        exact d1 x y (by omega) (by omega) h3 (fun p hp => by have := h4 p hp; rw [jo x p (by omega) hp, jo y p (by omega) hp] at this; exact this)
  · intro t ht
    rw [nwI_58]
    split
    · exact Or.inr ⟨f, by omega, rfl⟩
    · rcases s1 t ht with z | ⟨x, hx, ex⟩
      · exact Or.inl z
      · exact Or.inr ⟨x, by omega, ex⟩
  · have := cnt_up (I := I) (I' := nwI I J c s k f) (t := slN I J c) (fun i hi => by rw [nwI_58, if_neg hi]) 8192
    split at this <;> omega
  · intro x hx
    have nf1 : ¬ nI f = -1 := nI_m1 (by omega)
    by_cases e : x = f
    · subst e
      rw [hn]
      obtain ⟨j, j1, j2, j3⟩ := hsl
      refine ⟨j, j1, by rw [nwI_58, ← j2, if_pos rfl], fun i hi => ?_⟩
      rw [nwI_58]
      split
      · exact nf1
      · exact j3 i hi
    · rw [ho x (by omega)]
      obtain ⟨j, j1, j2, j3⟩ := s3 x (by omega)
      refine ⟨j, j1, ?_, fun i hi => ?_⟩
      · rw [nwI_58, if_neg (fun z => by
          rw [z, hz] at j2
          exact absurd j2.symm (nI_m1 (by omega)))]
        exact j2
      · rw [nwI_58]
        split
        · exact nf1
        · exact j3 i hi
  · intro t ht
    rw [← Nat.add_assoc, lst, upT_s, nwI_60]
    by_cases e : t = f
    · subst e; rw [if_pos rfl, if_pos rfl]
    · rw [if_neg e, if_neg (fun z => e (Option.some.inj z).symm), lst_up _ (Nat.le_refl _)]
      exact e1 t (by omega)
  · intro m t h1 h2
    rw [nwI_61]
    by_cases e : m = 3 * s + k
    · subst e
      rw [upT_s] at h2
      cases h2
      refine ⟨by omega, ?_⟩
      rw [if_pos rfl, lst_up _ (Nat.le_refl _), lst_none _ (fun m hm z => absurd (e2 m f hm z).1 (by omega))]
    · rw [upT_n e] at h2
      rw [if_neg e, lst_up _ (by omega)]
      obtain ⟨q1, q2⟩ := e2 m t (by omega) h2
      exact ⟨by omega, q2⟩
  · exact ld_step l1 hk rfl (fun i => by unfold fdJ; rw [upJ_a (by decide), upJ_a (by decide), upJ_a (by decide)])
  · intro x h1 h2
    rw [nwI_59, nwK_78]
    by_cases e : x = f
    · subst e; rw [if_pos rfl, if_pos rfl]; exact ⟨s, k, hs, hk, rfl, rfl⟩
    · rw [if_neg e, if_neg e]; exact f1 x h1 (by omega)
