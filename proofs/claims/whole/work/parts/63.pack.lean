/-! packed rows, purely -/
def cN (r q w l : Nat) : Nat := ((r * 64 + q) * 8 + w) * 4 + l
def rN (r q w l : Nat) : Nat := r * 16384 + q * 64 + w * 8 + l
def TV (r q w l : Nat) : Prop := r < 2 ^ 24 ∧ q ≤ 40 ∧ w ≤ 4 ∧ l ≤ 3 ∧ (w = 0 → q = 0 ∧ r = 0)
theorem l_tn {n : Nat} (h : n < 2 ^ 64) : (lN n).toBitVec.toNat = n := Nat.mod_eq_of_lt h
theorem l_ext {x : Int64} {n : Nat} (hn : n < 2 ^ 64) (h : x.toBitVec.toNat = n) : x = lN n := by
  apply Int64.toBitVec_inj.mp
  apply BitVec.eq_of_toNat_eq
  rw [l_tn hn, h]
theorem l_shl {n : Nat} (s : Int64) (k : Nat) (hs : (s.toBitVec.smod 64).toNat = k) (h : n * 2 ^ k < 2 ^ 64) : lN n <<< s = lN (n * 2 ^ k) := by
  have hn : n < 2 ^ 64 := Nat.lt_of_le_of_lt (Nat.le_mul_of_pos_right n (Nat.two_pow_pos k)) h
  apply l_ext h
  rw [Int64.toBitVec_shiftLeft]
  show ((lN n).toBitVec <<< (s.toBitVec.smod 64).toNat).toNat = _
  rw [hs, BitVec.toNat_shiftLeft, Nat.shiftLeft_eq, l_tn hn, Nat.mod_eq_of_lt h]
theorem l_or {a b k : Nat} (hb : b < 2 ^ k) (h : a * 2 ^ k + b < 2 ^ 64) : lN (a * 2 ^ k) ||| lN b = lN (a * 2 ^ k + b) := by
  apply l_ext h
  rw [Int64.toBitVec_or, BitVec.toNat_or, l_tn (by omega), l_tn (by omega), ← Nat.shiftLeft_eq, Nat.shiftLeft_add_eq_or_of_lt hb]
theorem l_and {n : Nat} (hn : n < 2 ^ 64) (k : Nat) (hk : k < 64) : lN n &&& lN (2 ^ k - 1) = lN (n % 2 ^ k) := by
  have h2 : 2 ^ k ≤ 2 ^ 63 := Nat.pow_le_pow_right (by decide) (by omega)
  have h3 : n % 2 ^ k < 2 ^ k := Nat.mod_lt _ (Nat.two_pow_pos k)
  apply l_ext (by omega)
  rw [Int64.toBitVec_and, BitVec.toNat_and, l_tn hn, l_tn (by omega), Nat.and_two_pow_sub_one_eq_mod]
theorem us_N {n : Nat} (hn : n < 2 ^ 64) (s : Int32) (k : Nat) (hs : ((s.toInt64.toUInt64 &&& Int64.toUInt64 63).toBitVec % 64).toNat = k) : us (lN n) s = lN (n / 2 ^ k) := by
  have h3 : n / 2 ^ k ≤ n := Nat.div_le_self _ _
  apply l_ext (by omega)
  show ((lN n).toUInt64 >>> (s.toInt64.toUInt64 &&& Int64.toUInt64 63)).toBitVec.toNat = _
  rw [UInt64.toBitVec_shiftRight]
  show ((lN n).toBitVec >>> ((s.toInt64.toUInt64 &&& Int64.toUInt64 63).toBitVec % 64).toNat).toNat = _
  rw [hs, BitVec.toNat_ushiftRight, l_tn hn, Nat.shiftRight_eq_div_pow]
theorem cN_lt {r q w l : Nat} (h : TV r q w l) : cN r q w l < 2 ^ 35 := by
  obtain ⟨h1, h2, h3, h4, -⟩ := h
  unfold cN; omega
theorem rN_lt {r q w l : Nat} (h : TV r q w l) : rN r q w l < 2 ^ 38 := by
  obtain ⟨h1, h2, h3, h4, -⟩ := h
  unfold rN; omega
theorem cN_inj {r q w l r' q' w' l' : Nat} (h : TV r q w l) (h' : TV r' q' w' l') (e : cN r q w l = cN r' q' w' l') : r = r' ∧ q = q' ∧ w = w' ∧ l = l' := by
  obtain ⟨h1, h2, h3, h4, -⟩ := h
  obtain ⟨g1, g2, g3, g4, -⟩ := h'
  unfold cN at e; omega
theorem rN_inj {r q w l r' q' w' l' : Nat} (h : TV r q w l) (h' : TV r' q' w' l') (e : rN r q w l = rN r' q' w' l') : r = r' ∧ q = q' ∧ w = w' ∧ l = l' := by
  obtain ⟨h1, h2, h3, h4, -⟩ := h
  obtain ⟨g1, g2, g3, g4, -⟩ := h'
  unfold rN at e; omega
/-- the two ways of packing tell the same apart -/
theorem pack_eq {r q w l r' q' w' l' : Nat} (h : TV r q w l) (h' : TV r' q' w' l') : lN (cN r q w l) = lN (cN r' q' w' l') ↔ lN (rN r q w l) = lN (rN r' q' w' l') := by
  have c1 := cN_lt h
  have c2 := cN_lt h'
  have d1 := rN_lt h
  have d2 := rN_lt h'
  rw [pk_lEQ (by omega) (by omega), pk_lEQ (by omega) (by omega)]
  refine ⟨fun e => ?_, fun e => ?_⟩
  · obtain ⟨rfl, rfl, rfl, rfl⟩ := cN_inj h h' e; rfl
  · obtain ⟨rfl, rfl, rfl, rfl⟩ := rN_inj h h' e; rfl
theorem bt_nI (n i : Nat) : bt (nI n) i = (decide (i < 32) && n.testBit i) := BitVec.getLsbD_ofNat 32 n i
theorem bt_sm {n i k : Nat} (h : n < 2 ^ k) (hi : k ≤ i) : bt (nI n) i = false := by
  rw [bt_nI, Nat.testBit_lt_two_pow (Nat.lt_of_lt_of_le h (Nat.pow_le_pow_right (by decide) hi)), Bool.and_false]
theorem nib_hi {r j : Nat} (h : r < 2 ^ 24) (hj : 6 ≤ j) (hj8 : j < 8) : nib (nI r) (nI j) = 0 := by
  apply b_ext
  intro t ht
  rw [nib_bt hj8, bt_sm h (by omega), b_0, Bool.and_false]
theorem reg_r {x : Int32} (h6 : nib x (nI 6) = 0) (h7 : nib x (nI 7) = 0) : ∃ r, r < 2 ^ 24 ∧ x = nI r := by
  have hz : ∀ i, 24 ≤ i → bt x i = false := by
    intro i hi
    rcases Nat.lt_or_ge i 32 with h | h
    · rcases Nat.lt_or_ge i 28 with h2 | h2
      · have := congrArg (fun z => bt z (i - 24)) h6
        simp only [nib_bt (show 6 < 8 by decide), b_0] at this
        rw [decide_eq_true (show i - 24 < 4 by omega), Bool.true_and, show 4 * 6 + (i - 24) = i by omega] at this
        exact this
      · have := congrArg (fun z => bt z (i - 28)) h7
        simp only [nib_bt (show 7 < 8 by decide), b_0] at this
        rw [decide_eq_true (show i - 28 < 4 by omega), Bool.true_and, show 4 * 7 + (i - 28) = i by omega] at this
        exact this
    · exact b_big h
  refine ⟨x.toBitVec.toNat, Nat.lt_pow_two_of_testBit _ (fun i hi => hz i hi), ?_⟩
  apply Int32.toBitVec_inj.mp
  apply BitVec.eq_of_toNat_eq
  rw [pk_tn x.toBitVec.isLt]
theorem shr_nib {x : Int32} {j : Nat} (hj : j < 8) : (x >>> (nI (4 * j) &&& 31)) &&& 15 = nib x (nI j) := by
  apply b_ext
  intro t ht
  rw [b_and, b_15, nib_bt hj, Bool.and_comm]
  by_cases h4 : t < 4
  · rw [decide_eq_true h4, Bool.true_and, Bool.true_and]
    unfold bt
    rw [Int32.toBitVec_shiftRight]
    show (x.toBitVec.sshiftRight ((nI (4 * j) &&& 31).toBitVec.smod 32).toNat).getLsbD t = _
    rw [s_l (4 * j) (by omega), BitVec.getLsbD_sshiftRight, if_pos (by omega), decide_eq_false (by omega)]
    rfl
  · rw [decide_eq_false h4]; rfl
/-- one more nibble above -/
theorem or_nib {v : Int32} {u k j : Nat} (hk : k < 8) (hj : j < 8) (hu : u ≤ 15) (hv : nib v (nI k) = 0) : nib (v ||| (nI u <<< (nI (4 * k) &&& 31))) (nI j) = if j = k then nI u else nib v (nI j) := by
  have h4 : ∀ i, 4 ≤ i → bt (nI u) i = false := fun i hi => bt_sm (k := 4) (by omega) hi
  by_cases e : j = k
  · subst e
    rw [if_pos rfl]
    apply b_ext
    intro t ht
    rw [nib_bt hj]
    by_cases ht4 : t < 4
    · have hz := congrArg (fun z => bt z t) hv
      simp only [nib_bt hj, b_0, decide_eq_true ht4, Bool.true_and] at hz
      rw [decide_eq_true ht4, Bool.true_and, b_or, hz, b_shl (4 * j) (by omega) _ (by omega), Nat.add_sub_cancel_left, decide_eq_true (by omega)]
      simp
    · rw [decide_eq_false ht4, h4 t (by omega)]; rfl
  · rw [if_neg e]
    apply b_ext
    intro t ht
    rw [nib_bt hj, nib_bt hj]
    by_cases ht4 : t < 4
    · rw [b_or, b_shl (4 * k) (by omega) _ (by omega)]
      rcases Nat.lt_or_ge j k with h | h
      · rw [decide_eq_false (show ¬ 4 * k ≤ 4 * j + t by omega)]; simp
      · rw [h4 _ (by omega)]; simp
    · rw [decide_eq_false ht4]; rfl
theorem pkR_nib {K : pI} {a b : Nat} : ∀ (m k : Nat) (v : Int32), k + m ≤ 8 → (∀ j, k ≤ j → j < 8 → nib v (nI j) = 0) → (∀ j, k ≤ j → j < k + m → ∃ u, u ≤ 15 ∧ K a (b + j) = nI u) → ∀ j, j < 8 → nib (pkR K a b m k v) (nI j) = if k ≤ j ∧ j < k + m then K a (b + j) else nib v (nI j) := by
  intro m
  induction m with
  | zero => intro k v hk hv hu j hj; rw [pkR, if_neg (by omega)]
  | succ m ih =>
    intro k v hk hv hu j hj
    obtain ⟨u, hu15, eu⟩ := hu k (Nat.le_refl _) (by omega)
    rw [pkR, eu, ih (k + 1) _ (by omega) (fun j h1 h2 => by rw [or_nib (by omega) h2 hu15 (hv k (Nat.le_refl _) (by omega)), if_neg (by omega)]; exact hv j (by omega) h2) (fun j h1 h2 => hu j (by omega) (by omega)) j hj, or_nib (by omega) hj hu15 (hv k (Nat.le_refl _) (by omega))]
    by_cases e : j = k
    · subst e
      rw [if_neg (by omega), if_pos rfl, if_pos ⟨Nat.le_refl _, by omega⟩, eu]
    · rw [if_neg e]
      by_cases h : k + 1 ≤ j ∧ j < k + 1 + m
      · rw [if_pos h, if_pos ⟨by omega, by omega⟩]
      · rw [if_neg h, if_neg (by omega)]
/-- the reference packs what the class holds -/
theorem pkR_all {K : pI} {a b n : Nat} {x : Int32} (hn : n ≤ 8) (h : ∀ j, j < n → nib x (nI j) = K a (b + j)) (h0 : ∀ j, n ≤ j → j < 8 → nib x (nI j) = 0) : pkR K a b n 0 0 = x := by
  apply nib_ext
  intro j hj
  rw [pkR_nib n 0 0 (by omega) (fun j _ h8 => nib_0 h8) (fun j _ h2 => by rw [← h j (by omega)]; exact nib_rng _ _) j hj]
  by_cases hjn : j < n
  · rw [if_pos ⟨by omega, by omega⟩, h j hjn]
  · rw [if_neg (by omega), h0 j (by omega) hj, nib_0 hj]
/-- the class's packed process -/
theorem cpp_N {I : pI} {p r q w l : Nat} (h : TV r q w l) (h0 : I (52 + p) 0 = nI w) (h1 : I (52 + p) 1 = nI q) (h2 : I (52 + p) 2 = nI r) (h3 : I 55 p = nI l) : cpp I p = lN (cN r q w l) := by
  obtain ⟨b1, b2, b3, b4, -⟩ := h
  have e1 : nI q <<< ((3 : Int32) &&& 31) = nI (q * 8) := pk_shlN (n := q) ((3 : Int32) &&& 31) 3 (by decide) (by omega)
  unfold cpp cpk
  rw [h0, h1, h2, h3, e1, nI_l (by omega), nI_l (by omega), nI_l (by omega), nI_l (by omega), l_shl _ 9 (by decide) (by omega), l_or (k := 9) (by omega) (by omega)]
  rw [show r * 2 ^ 9 + q * 8 = (r * 64 + q) * 2 ^ 3 by omega, l_or (k := 3) (by omega) (by omega), l_shl _ 2 (by decide) (by omega), l_or (k := 2) (by omega) (by omega)]
  rfl
/-- the reference's packed process -/
theorem rpk_N {K : pI} {k r q w l : Nat} (h : TV r q w l) (h0 : K 68 (3 + k) = nI w) (h1 : K 69 (3 + k) = nI q) (h2 : ∀ j, j < 6 → K 70 (6 * (3 + k) + j) = nib (nI r) (nI j)) (h3 : K 81 k = nI l) : rpk K k = lN (rN r q w l) := by
  obtain ⟨b1, b2, b3, b4, b5⟩ := h
  have e : (if K 68 (3 + k) = 0 then (0 : Int64) else (pkR K 70 (6 * (3 + k)) 6 0 0).toInt64) = lN r := by
    rw [h0]
    by_cases hw : w = 0
    · rw [hw, if_pos (by decide), (b5 hw).2]; rfl
    · rw [if_neg (nI_ne0 (by omega) (by omega)), pkR_all (x := nI r) (by decide) (fun j hj => (h2 j hj).symm) (fun j h6 h8 => nib_hi b1 h6 h8), nI_l (by omega)]
  unfold rpk
  rw [e, h0, h1, h3, nI_l (by omega), nI_l (by omega), nI_l (by omega), show (16384 : Int64) = lN 16384 by rfl, show (64 : Int64) = lN 64 by rfl, show (8 : Int64) = lN 8 by rfl, lN_mul, lN_mul, lN_mul, lN_add, lN_add, lN_add]
  rfl
