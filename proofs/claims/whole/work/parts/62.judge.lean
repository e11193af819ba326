/-! THE JUDGE of the reference: packed processes, rows, on the memory -/
theorem ixA (a b : Nat) (x : Int32) (h : x = nI a) : x + nI b = nI (a + b) := by rw [h, nI_add]
theorem ixM (a b : Nat) (x : Int32) (h : x = nI a) : x * nI b = nI (a * b) := by rw [h, pk_mul]
def lr (x y : Int64) : Int64 := x - x / y * y
def pkR (K : pI) (a b : Nat) : Nat → Nat → Int32 → Int32
  | 0, _, v => v
  | m + 1, k, v => pkR K a b m (k + 1) (v ||| (K a (b + k) <<< (nI (4 * k) &&& 31)))
def rpk (K : pI) (k : Nat) : Int64 := (if K 68 (3 + k) = 0 then 0 else (pkR K 70 (6 * (3 + k)) 6 0 0).toInt64) * 16384 + (K 69 (3 + k)).toInt64 * 64 + (K 68 (3 + k)).toInt64 * 8 + (K 81 k).toInt64
def unA (K : pI) (k : Nat) (v : Int64) : pI := upI (upI (upI K 81 k (lr v 8).toInt32) 68 (3 + k) (lr (v / 8) 8).toInt32) 69 (3 + k) (lr (v / 64) 256).toInt32
def unR (P : Nat) (r : Int32) : Nat → Nat → pI → pI
  | 0, _, K => K
  | m + 1, j, K => unR P r m (j + 1) (upI K 70 (6 * P + j) ((r >>> (nI (4 * j) &&& 31)) &&& 15))
def unK (K : pI) (k : Nat) (v : Int64) : pI := unR (3 + k) (v / 16384).toInt32 6 0 (unA K k v)
def opW (s : Nat) : Nat → Nat → pI → pI
  | 0, _, K => K
  | m + 1, k, K => opW s m (k + 1) (upI K 67 (8 + k) ((K 74 s >>> (nI (4 * k) &&& 31)) &&& 15))
def opI (K : pI) (J : pJ) (s : Nat) : pI := unK (unK (unK (opW s 8 0 K) 0 (J 75 s)) 1 (J 76 s)) 2 (J 77 s)
def fdL (K : pI) (J : pJ) (w : Int32) (x y z : Int64) : Nat → Nat → Nat
  | 0, s => s
  | m + 1, s => if K 74 s = w ∧ J 75 s = x ∧ J 76 s = y ∧ J 77 s = z then s else fdL K J w x y z m (s + 1)
def fdW (K : pI) : Int32 := pkR K 67 8 8 0 0
def fdN (K : pI) (J : pJ) (f : Nat) : Nat := fdL K J (fdW K) (rpk K 0) (rpk K 1) (rpk K 2) f 0
def fdK (K : pI) (f : Nat) : pI := upI K 74 f (fdW K)
def fdJ (K : pI) (J : pJ) (f : Nat) : pJ := upJ (upJ (upJ J 75 f (rpk K 0)) 76 f (rpk K 1)) 77 f (rpk K 2)
theorem fdL_le (K : pI) (J : pJ) (w : Int32) (x y z : Int64) : ∀ (m s : Nat), fdL K J w x y z m s ≤ s + m := by
  intro m
  induction m with
  | zero => intro s; exact Nat.le_refl _
  | succ m ih =>
    intro s
    rw [fdL]
    split
    · omega
    · have := ih (s + 1); omega
abbrev m_X6_pack : pT := (yX6_pack.cls, cX6_pack, 5, (some .int), { frames := 0, cells := 0, slots := 0, locals := 0 }, [], none)
set_option maxRecDepth 100000 in
set_option maxHeartbeats 4000000 in
theorem l_pack {a N b n : Nat} (I : pI) (J : pJ) (Q : pQ) (hk : pS a = (7, N)) (ha : a < 84) (hN : N < 2 ^ 31) (hb : b + n ≤ N) : ∀ (m k : Nat) (v : Int32), k + m = n → Q (.inl (some (.int (pkR I a b m k v)))) 84 I J pRs → PW m_X6_pack Q 5 [(0, .ref a), (1, .int (nI b)), (2, .int (nI n)), (3, .int v), (4, .int (nI k))] [] 84 I J pRs 0 0 := by
  intro m
  induction m with
  | zero =>
    intro k v hkm hQ
    refine pw_iload dX6_pack_5 rfl ?_
    refine pw_iload_n dX6_pack_7 rfl ?_
    refine pw_icmp_ge (tgt := 31) dX6_pack_8 (by decide) (fun h8 => ?_) (fun h8 => ?_)
    · refine pw_iload_n dX6_pack_31 rfl ?_
      refine pw_iret dX6_pack_32 rfl rfl (by decide) (by decide) ?_
      exact hQ
    · exact absurd (nI_le (by omega) (by omega)) h8
  | succ m ih =>
    intro k v hkm hQ
    refine pw_iload dX6_pack_5 rfl ?_
    refine pw_iload_n dX6_pack_7 rfl ?_
    refine pw_icmp_ge (tgt := 31) dX6_pack_8 (by decide) (fun h8 => ?_) (fun h8 => ?_)
    · exact absurd ((nI_leI (a := n) (b := k) (by omega) (by omega)).mp h8) (by omega)
    · refine pw_iload_n dX6_pack_11 rfl ?_
      refine pw_aload_n dX6_pack_12 rfl ?_
      refine pw_iload_n dX6_pack_13 rfl ?_
      refine pw_iload dX6_pack_14 rfl ?_
      refine pw_iadd dX6_pack_16 ?_
      rw [nI_add]
      refine pw_iald dX6_pack_17 hk ha (by decide) (vp_in_nI (by omega) hN) ?_
      rw [nI_clamp (show b + k < 2 ^ 31 by omega)]
      refine pw_iconst (v := 4) dX6_pack_18 (by decide) ?_
      refine pw_iload dX6_pack_19 rfl ?_
      refine pw_imul dX6_pack_21 ?_
      rw [n4]
      refine pw_ishl dX6_pack_22 ?_
      refine pw_ior dX6_pack_23 ?_
      refine pw_istore_n dX6_pack_24 (by decide) ?_
      refine pw_iinc (v := nI (k + 1)) dX6_pack_25 rfl (by rw [nI_succ]; rfl) (by decide) ?_
      refine pw_goto (tgt := 5) dX6_pack_28 (by decide) ?_
      refine pw_loc (L' := [(0, .ref a), (1, .int (nI b)), (2, .int (nI n)), (3, .int (v ||| (I a (b + k) <<< (nI (4 * k) &&& 31)))), (4, .int (nI (k + 1)))]) rfl ?_
      exact ih (k + 1) _ (by omega) (by rw [pkR] at hQ; exact hQ)
set_option maxRecDepth 100000 in
set_option maxHeartbeats 4000000 in
theorem r_pack {a N b n : Nat} (I : pI) (J : pJ) (hk : pS a = (7, N)) (ha : a < 84) (hN : N < 2 ^ 31) (hb : b + n ≤ N) : pMet yX6_pack (pws yX6_pack cX6_pack 5 (some .int)) { frames := 0, cells := 0, slots := 0, locals := 0 } [.ref a, .int (nI b), .int (nI n)] 84 I J pRs (pOi (fun r I' J' => r = pkR I a b n 0 0 ∧ I' = I ∧ J' = J)) := by
  refine pMet_of (by decide) (Nat.le_of_ble_eq_true rfl) ?_
  refine pw_iconst (v := 0) dX6_pack_0 (by decide) ?_
  refine pw_istore_n dX6_pack_1 (by decide) ?_
  refine pw_iconst (v := 0) dX6_pack_2 (by decide) ?_
  refine pw_istore dX6_pack_3 (by decide) ?_
  refine pw_loc (L' := [(0, .ref a), (1, .int (nI b)), (2, .int (nI n)), (3, .int 0), (4, .int (nI 0))]) rfl ?_
  exact l_pack I J _ hk ha hN hb n 0 0 (by omega) ⟨_, rfl, rfl, rfl, rfl, rfl, rfl⟩
set_option maxRecDepth 100000 in
set_option maxHeartbeats 4000000 in
theorem r_packed {k : Nat} (I : pI) (J : pJ) (hk3 : k < 3) : pMet yX6_packed (pws yX6_packed cX6_packed 5 (some .long)) { frames := 1, cells := 0, slots := 0, locals := 24 } [.ref 64, .int (nI k)] 84 I J pRs (pOl (fun r I' J' => r = rpk I k ∧ I' = I ∧ J' = J)) := by
  refine pMet_of (by decide) (Nat.le_of_ble_eq_true rfl) ?_
  refine pw_iconst (v := 3) dX6_packed_0 (by decide) ?_
  refine pw_iload_n dX6_packed_1 rfl ?_
  refine pw_iadd dX6_packed_2 ?_
  rw [ixA 3 k 3 (by decide)]
  refine pw_istore_n dX6_packed_3 (by decide) ?_
  refine pw_aload_n dX6_packed_4 rfl ?_
  refine pw_getr dX6_packed_5 fl_X6_26 rfl rfl (by decide) (by decide) rfl ?_
  refine pw_iload_n dX6_packed_8 rfl ?_
  refine pw_iald dX6_packed_9 rfl (by decide) (by decide) (vp_in_nI (by omega) (by decide)) ?_
  rw [nI_clamp (show 3 + k < 2 ^ 31 by omega)]
  refine pw_if_ne (tgt := 17) dX6_packed_10 (by decide) (fun h10 => ?_) (fun h10 => ?_)
  · refine pw_aload_n dX6_packed_17 rfl ?_
    refine pw_getr dX6_packed_18 fl_X6_32 rfl rfl (by decide) (by decide) rfl ?_
    refine pw_bipush (v := 6) dX6_packed_21 (by decide) ?_
    refine pw_iload_n dX6_packed_23 rfl ?_
    refine pw_imul dX6_packed_24 ?_
    rw [ixM 6 (3 + k) 6 (by decide)]
    refine pw_bipush (v := 6) dX6_packed_25 (by decide) ?_
    refine pw_cSi (y := yX6_pack) (cc := cX6_pack) (nL := 5) (ret := (some .int)) (rm := { frames := 0, cells := 0, slots := 0, locals := 0 }) dX6_packed_27 (r_pack (a := 70) (N := 36) (b := 6 * (3 + k)) (n := 6) _ _ rfl (by decide) (by decide) (by omega)) w_X6_151 rfl ⟨by decide, by decide⟩ (by decide) (by decide) rfl (Nat.le_of_ble_eq_true rfl) (fun x27 I27 J27 q27 => ?_)
    obtain ⟨rfl, rfl, rfl⟩ := rvq q27
    refine pw_i2l dX6_packed_30 ?_
    refine pw_lstore_n dX6_packed_31 (by decide) ?_
    refine pw_lload_n dX6_packed_32 rfl ?_
    refine pw_ldc2 (v := (16384)) dX6_packed_33 k_X6_155 ?_
    refine pw_lmul dX6_packed_36 ?_
    refine pw_aload_n dX6_packed_37 rfl ?_
    refine pw_getr dX6_packed_38 fl_X6_29 rfl rfl (by decide) (by decide) rfl ?_
    refine pw_iload_n dX6_packed_41 rfl ?_
    refine pw_iald dX6_packed_42 rfl (by decide) (by decide) (vp_in_nI (by omega) (by decide)) ?_
    rw [nI_clamp (show 3 + k < 2 ^ 31 by omega)]
    refine pw_i2l dX6_packed_43 ?_
    refine pw_ldc2 (v := (64)) dX6_packed_44 k_X6_157 ?_
    refine pw_lmul dX6_packed_47 ?_
    refine pw_ladd dX6_packed_48 ?_
    refine pw_aload_n dX6_packed_49 rfl ?_
    refine pw_getr dX6_packed_50 fl_X6_26 rfl rfl (by decide) (by decide) rfl ?_
    refine pw_iload_n dX6_packed_53 rfl ?_
    refine pw_iald dX6_packed_54 rfl (by decide) (by decide) (vp_in_nI (by omega) (by decide)) ?_
    rw [nI_clamp (show 3 + k < 2 ^ 31 by omega)]
    refine pw_i2l dX6_packed_55 ?_
    refine pw_ldc2 (v := (8)) dX6_packed_56 k_X6_159 ?_
    refine pw_lmul dX6_packed_59 ?_
    refine pw_ladd dX6_packed_60 ?_
    refine pw_aload_n dX6_packed_61 rfl ?_
    refine pw_getr dX6_packed_62 fl_X6_67 rfl rfl (by decide) (by decide) rfl ?_
    refine pw_iload_n dX6_packed_65 rfl ?_
    refine pw_iald dX6_packed_66 rfl (by decide) (by decide) (vp_in_nI (by omega) (by decide)) ?_
    rw [nI_clamp (show k < 2 ^ 31 by omega)]
    refine pw_i2l dX6_packed_67 ?_
    refine pw_ladd dX6_packed_68 ?_
    refine pw_lret dX6_packed_69 rfl (by decide) (by decide) ?_
    exact ⟨_, rfl, rfl, rfl, by rw [rpk, if_neg h10], rfl, rfl⟩
  · refine pw_lconst (v := 0) dX6_packed_13 (by decide) ?_
    refine pw_goto (tgt := 31) dX6_packed_14 (by decide) ?_
    refine pw_lstore_n dX6_packed_31 (by decide) ?_
    refine pw_lload_n dX6_packed_32 rfl ?_
    refine pw_ldc2 (v := (16384)) dX6_packed_33 k_X6_155 ?_
    refine pw_lmul dX6_packed_36 ?_
    refine pw_aload_n dX6_packed_37 rfl ?_
    refine pw_getr dX6_packed_38 fl_X6_29 rfl rfl (by decide) (by decide) rfl ?_
    refine pw_iload_n dX6_packed_41 rfl ?_
    refine pw_iald dX6_packed_42 rfl (by decide) (by decide) (vp_in_nI (by omega) (by decide)) ?_
    rw [nI_clamp (show 3 + k < 2 ^ 31 by omega)]
    refine pw_i2l dX6_packed_43 ?_
    refine pw_ldc2 (v := (64)) dX6_packed_44 k_X6_157 ?_
    refine pw_lmul dX6_packed_47 ?_
    refine pw_ladd dX6_packed_48 ?_
    refine pw_aload_n dX6_packed_49 rfl ?_
    refine pw_getr dX6_packed_50 fl_X6_26 rfl rfl (by decide) (by decide) rfl ?_
    refine pw_iload_n dX6_packed_53 rfl ?_
    refine pw_iald dX6_packed_54 rfl (by decide) (by decide) (vp_in_nI (by omega) (by decide)) ?_
    rw [nI_clamp (show 3 + k < 2 ^ 31 by omega)]
    refine pw_i2l dX6_packed_55 ?_
    refine pw_ldc2 (v := (8)) dX6_packed_56 k_X6_159 ?_
    refine pw_lmul dX6_packed_59 ?_
    refine pw_ladd dX6_packed_60 ?_
    refine pw_aload_n dX6_packed_61 rfl ?_
    refine pw_getr dX6_packed_62 fl_X6_67 rfl rfl (by decide) (by decide) rfl ?_
    refine pw_iload_n dX6_packed_65 rfl ?_
    refine pw_iald dX6_packed_66 rfl (by decide) (by decide) (vp_in_nI (by omega) (by decide)) ?_
    rw [nI_clamp (show k < 2 ^ 31 by omega)]
    refine pw_i2l dX6_packed_67 ?_
    refine pw_ladd dX6_packed_68 ?_
    refine pw_lret dX6_packed_69 rfl (by decide) (by decide) ?_
    exact ⟨_, rfl, rfl, rfl, by rw [rpk, if_pos h10], rfl, rfl⟩
abbrev m_X6_unpack : pT := (yX6_unpack.cls, cX6_unpack, 7, none, { frames := 0, cells := 0, slots := 0, locals := 0 }, [], none)
set_option maxRecDepth 100000 in
set_option maxHeartbeats 4000000 in
theorem l_unpack {k : Nat} {r : Int32} (J : pJ) (Q : pQ) (hk3 : k < 3) : ∀ (m j : Nat) (I : pI), j + m = 6 → Q (.inl none) 84 (unR (3 + k) r m j I) J pRs → PW m_X6_unpack Q 62 [(0, .ref 64), (1, .int (nI k)), (4, .int (nI (3 + k))), (5, .int r), (6, .int (nI j))] [] 84 I J pRs 0 0 := by
  intro m
  induction m with
  | zero =>
    intro j I hjm hQ
    refine pw_iload dX6_unpack_62 rfl ?_
    refine pw_bipush (v := 6) dX6_unpack_64 (by decide) ?_
    refine pw_icmp_ge (tgt := 98) dX6_unpack_66 (by decide) (fun h66 => ?_) (fun h66 => ?_)
    · refine pw_vret dX6_unpack_98 rfl (by decide) (by decide) ?_
      exact hQ
    · exact absurd (nI_le (a := 6) (b := j) (by omega) (by omega)) h66
  | succ m ih =>
    intro j I hjm hQ
    refine pw_iload dX6_unpack_62 rfl ?_
    refine pw_bipush (v := 6) dX6_unpack_64 (by decide) ?_
    refine pw_icmp_ge (tgt := 98) dX6_unpack_66 (by decide) (fun h66 => ?_) (fun h66 => ?_)
    · exact absurd ((nI_leI (a := 6) (b := j) (by omega) (by omega)).mp h66) (by omega)
    · refine pw_aload_n dX6_unpack_69 rfl ?_
      refine pw_getr dX6_unpack_70 fl_X6_32 rfl rfl (by decide) (by decide) rfl ?_
      refine pw_bipush (v := 6) dX6_unpack_73 (by decide) ?_
      refine pw_iload dX6_unpack_75 rfl ?_
      refine pw_imul dX6_unpack_77 ?_
      rw [ixM 6 (3 + k) 6 (by decide)]
      refine pw_iload dX6_unpack_78 rfl ?_
      refine pw_iadd dX6_unpack_80 ?_
      rw [nI_add]
      refine pw_iload dX6_unpack_81 rfl ?_
      refine pw_iconst (v := 4) dX6_unpack_83 (by decide) ?_
      refine pw_iload dX6_unpack_84 rfl ?_
      refine pw_imul dX6_unpack_86 ?_
      rw [n4]
      refine pw_ishr dX6_unpack_87 ?_
      refine pw_bipush (v := 15) dX6_unpack_88 (by decide) ?_
      refine pw_iand dX6_unpack_90 ?_
      refine pw_iast dX6_unpack_91 rfl (by decide) (by decide) (vp_in_nI (by omega) (by decide)) ?_
      rw [nI_clamp (show 6 * (3 + k) + j < 2 ^ 31 by omega)]
      refine pw_iinc (v := nI (j + 1)) dX6_unpack_92 rfl (by rw [nI_succ]; rfl) (by decide) ?_
      refine pw_goto (tgt := 62) dX6_unpack_95 (by decide) ?_
      refine pw_loc (L' := [(0, .ref 64), (1, .int (nI k)), (4, .int (nI (3 + k))), (5, .int r), (6, .int (nI (j + 1)))]) rfl ?_
      exact ih (j + 1) _ (by omega) (by rw [unR] at hQ; exact hQ)
set_option maxRecDepth 100000 in
set_option maxHeartbeats 4000000 in
theorem r_unpack {k : Nat} (v : Int64) (I : pI) (J : pJ) (hk3 : k < 3) : pMet yX6_unpack (pws yX6_unpack cX6_unpack 7 none) { frames := 0, cells := 0, slots := 0, locals := 0 } [.ref 64, .int (nI k), .long v] 84 I J pRs (pOv (fun I' J' => I' = unK I k v ∧ J' = J)) := by
  refine pMet_of (by decide) (Nat.le_of_ble_eq_true rfl) ?_
  refine pw_iconst (v := 3) dX6_unpack_0 (by decide) ?_
  refine pw_iload_n dX6_unpack_1 rfl ?_
  refine pw_iadd dX6_unpack_2 ?_
  rw [ixA 3 k 3 (by decide)]
  refine pw_istore dX6_unpack_3 (by decide) ?_
  refine pw_aload_n dX6_unpack_5 rfl ?_
  refine pw_getr dX6_unpack_6 fl_X6_67 rfl rfl (by decide) (by decide) rfl ?_
  refine pw_iload_n dX6_unpack_9 rfl ?_
  refine pw_lload_n dX6_unpack_10 rfl ?_
  refine pw_ldc2 (v := (8)) dX6_unpack_11 k_X6_159 ?_
  refine pw_lrem dX6_unpack_14 (by decide) ?_
  refine pw_l2i dX6_unpack_15 ?_
  refine pw_iast dX6_unpack_16 rfl (by decide) (by decide) (vp_in_nI (by omega) (by decide)) ?_
  rw [nI_clamp (show k < 2 ^ 31 by omega)]
  refine pw_aload_n dX6_unpack_17 rfl ?_
  refine pw_getr dX6_unpack_18 fl_X6_26 rfl rfl (by decide) (by decide) rfl ?_
  refine pw_iload dX6_unpack_21 rfl ?_
  refine pw_lload_n dX6_unpack_23 rfl ?_
  refine pw_ldc2 (v := (8)) dX6_unpack_24 k_X6_159 ?_
  refine pw_ldiv dX6_unpack_27 (by decide) ?_
  refine pw_ldc2 (v := (8)) dX6_unpack_28 k_X6_159 ?_
  refine pw_lrem dX6_unpack_31 (by decide) ?_
  refine pw_l2i dX6_unpack_32 ?_
  refine pw_iast dX6_unpack_33 rfl (by decide) (by decide) (vp_in_nI (by omega) (by decide)) ?_
  rw [nI_clamp (show 3 + k < 2 ^ 31 by omega)]
  refine pw_aload_n dX6_unpack_34 rfl ?_
  refine pw_getr dX6_unpack_35 fl_X6_29 rfl rfl (by decide) (by decide) rfl ?_
  refine pw_iload dX6_unpack_38 rfl ?_
  refine pw_lload_n dX6_unpack_40 rfl ?_
  refine pw_ldc2 (v := (64)) dX6_unpack_41 k_X6_157 ?_
  refine pw_ldiv dX6_unpack_44 (by decide) ?_
  refine pw_ldc2 (v := (256)) dX6_unpack_45 k_X6_161 ?_
  refine pw_lrem dX6_unpack_48 (by decide) ?_
  refine pw_l2i dX6_unpack_49 ?_
  refine pw_iast dX6_unpack_50 rfl (by decide) (by decide) (vp_in_nI (by omega) (by decide)) ?_
  rw [nI_clamp (show 3 + k < 2 ^ 31 by omega)]
  refine pw_lload_n dX6_unpack_51 rfl ?_
  refine pw_ldc2 (v := (16384)) dX6_unpack_52 k_X6_155 ?_
  refine pw_ldiv dX6_unpack_55 (by decide) ?_
  refine pw_l2i dX6_unpack_56 ?_
  refine pw_istore dX6_unpack_57 (by decide) ?_
  refine pw_iconst (v := 0) dX6_unpack_59 (by decide) ?_
  refine pw_istore dX6_unpack_60 (by decide) ?_
  refine pw_loc (L' := [(0, .ref 64), (1, .int (nI k)), (4, .int (nI (3 + k))), (5, .int (v / 16384).toInt32), (6, .int (nI 0))]) rfl ?_
  exact l_unpack J _ hk3 6 0 _ (by decide) ⟨rfl, rfl, rfl, rfl, rfl⟩
abbrev m_X6_open : pT := (yX6_open.cls, cX6_open, 3, none, { frames := 1, cells := 0, slots := 0, locals := 26 }, [], none)
set_option maxRecDepth 100000 in
set_option maxHeartbeats 4000000 in
theorem l_open {s : Nat} (J : pJ) (Q : pQ) (hs : s < 3000) : ∀ (m k : Nat) (I : pI), k + m = 8 → PW m_X6_open Q 36 [(0, .ref 64), (1, .int (nI s))] [] 84 (opW s m k I) J pRs 0 0 → PW m_X6_open Q 2 [(0, .ref 64), (1, .int (nI s)), (2, .int (nI k))] [] 84 I J pRs 0 0 := by
  intro m
  induction m with
  | zero =>
    intro k I hkm hK
    refine pw_iload_n dX6_open_2 rfl ?_
    refine pw_bipush (v := 8) dX6_open_3 (by decide) ?_
    refine pw_icmp_ge (tgt := 36) dX6_open_5 (by decide) (fun h5 => ?_) (fun h5 => ?_)
    · refine pw_loc (L' := [(0, .ref 64), (1, .int (nI s))]) rfl ?_
      exact hK
    · exact absurd (nI_le (a := 8) (b := k) (by omega) (by omega)) h5
  | succ m ih =>
    intro k I hkm hK
    refine pw_iload_n dX6_open_2 rfl ?_
    refine pw_bipush (v := 8) dX6_open_3 (by decide) ?_
    refine pw_icmp_ge (tgt := 36) dX6_open_5 (by decide) (fun h5 => ?_) (fun h5 => ?_)
    · exact absurd ((nI_leI (a := 8) (b := k) (by omega) (by omega)).mp h5) (by omega)
    · refine pw_aload_n dX6_open_8 rfl ?_
      refine pw_getr dX6_open_9 fl_X6_23 rfl rfl (by decide) (by decide) rfl ?_
      refine pw_bipush (v := 8) dX6_open_12 (by decide) ?_
      refine pw_iload_n dX6_open_14 rfl ?_
      refine pw_iadd dX6_open_15 ?_
      rw [ixA 8 k 8 (by decide)]
      refine pw_aload_n dX6_open_16 rfl ?_
      refine pw_getr dX6_open_17 fl_X6_45 rfl rfl (by decide) (by decide) rfl ?_
      refine pw_iload_n dX6_open_20 rfl ?_
      refine pw_iald dX6_open_21 rfl (by decide) (by decide) (vp_in_nI (by omega) (by decide)) ?_
      rw [nI_clamp (show s < 2 ^ 31 by omega)]
      refine pw_iconst (v := 4) dX6_open_22 (by decide) ?_
      refine pw_iload_n dX6_open_23 rfl ?_
      refine pw_imul dX6_open_24 ?_
      rw [n4]
      refine pw_ishr dX6_open_25 ?_
      refine pw_bipush (v := 15) dX6_open_26 (by decide) ?_
      refine pw_iand dX6_open_28 ?_
      refine pw_iast dX6_open_29 rfl (by decide) (by decide) (vp_in_nI (by omega) (by decide)) ?_
      rw [nI_clamp (show 8 + k < 2 ^ 31 by omega)]
      refine pw_iinc (v := nI (k + 1)) dX6_open_30 rfl (by rw [nI_succ]; rfl) (by decide) ?_
      refine pw_goto (tgt := 2) dX6_open_33 (by decide) ?_
      refine pw_loc (L' := [(0, .ref 64), (1, .int (nI s)), (2, .int (nI (k + 1)))]) rfl ?_
      exact ih (k + 1) _ (by omega) (by rw [opW] at hK; exact hK)
set_option maxRecDepth 100000 in
set_option maxHeartbeats 4000000 in
theorem r_open {s : Nat} (I : pI) (J : pJ) (hs : s < 3000) : pMet yX6_open (pws yX6_open cX6_open 3 none) { frames := 1, cells := 0, slots := 0, locals := 26 } [.ref 64, .int (nI s)] 84 I J pRs (pOv (fun I' J' => I' = opI I J s ∧ J' = J)) := by
  refine pMet_of (by decide) (Nat.le_of_ble_eq_true rfl) ?_
  refine pw_iconst (v := 0) dX6_open_0 (by decide) ?_
  refine pw_istore_n dX6_open_1 (by decide) ?_
  refine pw_loc (L' := [(0, .ref 64), (1, .int (nI s)), (2, .int (nI 0))]) rfl ?_
  refine l_open J _ hs 8 0 _ (by decide) ?_
  refine pw_aload_n dX6_open_36 rfl ?_
  refine pw_iconst (v := 0) dX6_open_37 (by decide) ?_
  refine pw_aload_n dX6_open_38 rfl ?_
  refine pw_getr dX6_open_39 fl_X6_48 rfl rfl (by decide) (by decide) rfl ?_
  refine pw_iload_n dX6_open_42 rfl ?_
  refine pw_lald dX6_open_43 rfl (by decide) (by decide) (vp_in_nI (by omega) (by decide)) ?_
  rw [nI_clamp (show s < 2 ^ 31 by omega)]
  refine pw_cVv (ci := 6) (y := yX6_unpack) (cc := cX6_unpack) (nL := 7) (ret := none) (rm := { frames := 0, cells := 0, slots := 0, locals := 0 }) dX6_open_44 (r_unpack (k := 0) _ _ _ (by decide)) w_X6_163 rfl (by decide) rfl ⟨by decide, by decide⟩ (by decide) (by decide) rfl (Nat.le_of_ble_eq_true rfl) (fun I44 J44 q44 => ?_)
  obtain ⟨rfl, rfl⟩ := rvv q44
  refine pw_aload_n dX6_open_47 rfl ?_
  refine pw_iconst (v := 1) dX6_open_48 (by decide) ?_
  refine pw_aload_n dX6_open_49 rfl ?_
  refine pw_getr dX6_open_50 fl_X6_52 rfl rfl (by decide) (by decide) rfl ?_
  refine pw_iload_n dX6_open_53 rfl ?_
  refine pw_lald dX6_open_54 rfl (by decide) (by decide) (vp_in_nI (by omega) (by decide)) ?_
  rw [nI_clamp (show s < 2 ^ 31 by omega)]
  refine pw_cVv (ci := 6) (y := yX6_unpack) (cc := cX6_unpack) (nL := 7) (ret := none) (rm := { frames := 0, cells := 0, slots := 0, locals := 0 }) dX6_open_55 (r_unpack (k := 1) _ _ _ (by decide)) w_X6_163 rfl (by decide) rfl ⟨by decide, by decide⟩ (by decide) (by decide) rfl (Nat.le_of_ble_eq_true rfl) (fun I55 J55 q55 => ?_)
  obtain ⟨rfl, rfl⟩ := rvv q55
  refine pw_aload_n dX6_open_58 rfl ?_
  refine pw_iconst (v := 2) dX6_open_59 (by decide) ?_
  refine pw_aload_n dX6_open_60 rfl ?_
  refine pw_getr dX6_open_61 fl_X6_55 rfl rfl (by decide) (by decide) rfl ?_
  refine pw_iload_n dX6_open_64 rfl ?_
  refine pw_lald dX6_open_65 rfl (by decide) (by decide) (vp_in_nI (by omega) (by decide)) ?_
  rw [nI_clamp (show s < 2 ^ 31 by omega)]
  refine pw_cVv (ci := 6) (y := yX6_unpack) (cc := cX6_unpack) (nL := 7) (ret := none) (rm := { frames := 0, cells := 0, slots := 0, locals := 0 }) dX6_open_66 (r_unpack (k := 2) _ _ _ (by decide)) w_X6_163 rfl (by decide) rfl ⟨by decide, by decide⟩ (by decide) (by decide) rfl (Nat.le_of_ble_eq_true rfl) (fun I66 J66 q66 => ?_)
  obtain ⟨rfl, rfl⟩ := rvv q66
  refine pw_vret dX6_open_69 rfl (by decide) (by decide) ?_
  exact ⟨rfl, rfl, rfl, rfl, rfl⟩
abbrev m_X6_find : pT := (yX6_find.cls, cX6_find, 9, (some .int), { frames := 2, cells := 0, slots := 0, locals := 48 }, [], none)
set_option maxRecDepth 100000 in
set_option maxHeartbeats 4000000 in
theorem l_find {f : Nat} {w : Int32} {x y z : Int64} (I : pI) (J : pJ) (Q : pQ) (hf3 : f ≤ 3000) (hf : I 64 12 = nI f) : ∀ (m s : Nat), s + m = f → PW m_X6_find Q 99 [(0, .ref 64), (1, .int w), (2, .long x), (4, .long y), (6, .long z), (8, .int (nI (fdL I J w x y z m s)))] [] 84 I J pRs 0 0 → PW m_X6_find Q 35 [(0, .ref 64), (1, .int w), (2, .long x), (4, .long y), (6, .long z), (8, .int (nI s))] [] 84 I J pRs 0 0 := by
  intro m
  induction m with
  | zero =>
    intro s hsm hK
    refine pw_iload dX6_find_35 rfl ?_
    refine pw_aload_n dX6_find_37 rfl ?_
    refine pw_geti dX6_find_38 fl_X6_171 rfl rfl (by decide) (by decide) ?_
    refine pw_icmp_ge (tgt := 99) dX6_find_41 (by decide) (fun h41 => ?_) (fun h41 => ?_)
    · refine pw_loc (L' := [(0, .ref 64), (1, .int w), (2, .long x), (4, .long y), (6, .long z), (8, .int (nI s))]) rfl ?_
      exact hK
    · rw [hf] at h41
      exact absurd (nI_le (by omega) (by omega)) h41
  | succ m ih =>
    intro s hsm hK
    refine pw_iload dX6_find_35 rfl ?_
    refine pw_aload_n dX6_find_37 rfl ?_
    refine pw_geti dX6_find_38 fl_X6_171 rfl rfl (by decide) (by decide) ?_
    refine pw_icmp_ge (tgt := 99) dX6_find_41 (by decide) (fun h41 => ?_) (fun h41 => ?_)
    · rw [hf] at h41
      exact absurd ((nI_leI (a := f) (b := s) (by omega) (by omega)).mp h41) (by omega)
    · refine pw_aload_n dX6_find_44 rfl ?_
      refine pw_getr dX6_find_45 fl_X6_45 rfl rfl (by decide) (by decide) rfl ?_
      refine pw_iload dX6_find_48 rfl ?_
      refine pw_iald dX6_find_50 rfl (by decide) (by decide) (vp_in_nI (by omega) (by decide)) ?_
      rw [nI_clamp (show s < 2 ^ 31 by omega)]
      refine pw_iload_n dX6_find_51 rfl ?_
      refine pw_icmp_ne (tgt := 93) dX6_find_52 (by decide) (fun h52 => ?_) (fun h52 => ?_)
      · refine pw_iinc (v := nI (s + 1)) dX6_find_93 rfl (by rw [nI_succ]; rfl) (by decide) ?_
        refine pw_goto (tgt := 35) dX6_find_96 (by decide) ?_
        refine pw_loc (L' := [(0, .ref 64), (1, .int w), (2, .long x), (4, .long y), (6, .long z), (8, .int (nI (s + 1)))]) rfl ?_
        exact ih (s + 1) (by omega) (by rw [fdL, if_neg (fun q => h52 q.1)] at hK; exact hK)
      · refine pw_aload_n dX6_find_55 rfl ?_
        refine pw_getr dX6_find_56 fl_X6_48 rfl rfl (by decide) (by decide) rfl ?_
        refine pw_iload dX6_find_59 rfl ?_
        refine pw_lald dX6_find_61 rfl (by decide) (by decide) (vp_in_nI (by omega) (by decide)) ?_
        rw [nI_clamp (show s < 2 ^ 31 by omega)]
        refine pw_lload_n dX6_find_62 rfl ?_
        refine pw_lcmp dX6_find_63 ?_
        refine pw_if_ne (tgt := 93) dX6_find_64 (by decide) (fun h64 => ?_) (fun h64 => ?_)
        · refine pw_iinc (v := nI (s + 1)) dX6_find_93 rfl (by rw [nI_succ]; rfl) (by decide) ?_
          refine pw_goto (tgt := 35) dX6_find_96 (by decide) ?_
          refine pw_loc (L' := [(0, .ref 64), (1, .int w), (2, .long x), (4, .long y), (6, .long z), (8, .int (nI (s + 1)))]) rfl ?_
          exact ih (s + 1) (by omega) (by rw [fdL, if_neg (fun q => h64 ((lg_cmp_eq _ _).mpr q.2.1))] at hK; exact hK)
        · refine pw_aload_n dX6_find_67 rfl ?_
          refine pw_getr dX6_find_68 fl_X6_52 rfl rfl (by decide) (by decide) rfl ?_
          refine pw_iload dX6_find_71 rfl ?_
          refine pw_lald dX6_find_73 rfl (by decide) (by decide) (vp_in_nI (by omega) (by decide)) ?_
          rw [nI_clamp (show s < 2 ^ 31 by omega)]
          refine pw_lload dX6_find_74 rfl ?_
          refine pw_lcmp dX6_find_76 ?_
          refine pw_if_ne (tgt := 93) dX6_find_77 (by decide) (fun h77 => ?_) (fun h77 => ?_)
          · refine pw_iinc (v := nI (s + 1)) dX6_find_93 rfl (by rw [nI_succ]; rfl) (by decide) ?_
            refine pw_goto (tgt := 35) dX6_find_96 (by decide) ?_
            refine pw_loc (L' := [(0, .ref 64), (1, .int w), (2, .long x), (4, .long y), (6, .long z), (8, .int (nI (s + 1)))]) rfl ?_
            exact ih (s + 1) (by omega) (by rw [fdL, if_neg (fun q => h77 ((lg_cmp_eq _ _).mpr q.2.2.1))] at hK; exact hK)
          · refine pw_aload_n dX6_find_80 rfl ?_
            refine pw_getr dX6_find_81 fl_X6_55 rfl rfl (by decide) (by decide) rfl ?_
            refine pw_iload dX6_find_84 rfl ?_
            refine pw_lald dX6_find_86 rfl (by decide) (by decide) (vp_in_nI (by omega) (by decide)) ?_
            rw [nI_clamp (show s < 2 ^ 31 by omega)]
            refine pw_lload dX6_find_87 rfl ?_
            refine pw_lcmp dX6_find_89 ?_
            refine pw_if_eq (tgt := 99) dX6_find_90 (by decide) (fun h90 => ?_) (fun h90 => ?_)
            · rw [fdL, if_pos ⟨h52, (lg_cmp_eq _ _).mp h64, (lg_cmp_eq _ _).mp h77, (lg_cmp_eq _ _).mp h90⟩] at hK
              exact hK
            · refine pw_iinc (v := nI (s + 1)) dX6_find_93 rfl (by rw [nI_succ]; rfl) (by decide) ?_
              refine pw_goto (tgt := 35) dX6_find_96 (by decide) ?_
              refine pw_loc (L' := [(0, .ref 64), (1, .int w), (2, .long x), (4, .long y), (6, .long z), (8, .int (nI (s + 1)))]) rfl ?_
              exact ih (s + 1) (by omega) (by rw [fdL, if_neg (fun q => h90 ((lg_cmp_eq _ _).mpr q.2.2.2))] at hK; exact hK)
set_option maxRecDepth 100000 in
set_option maxHeartbeats 4000000 in
theorem r_find_o {f : Nat} (I : pI) (J : pJ) (hf3 : f ≤ 3000) (hf : I 64 12 = nI f) (hn : fdN I J f < f) : pMet yX6_find (pws yX6_find cX6_find 9 (some .int)) { frames := 2, cells := 0, slots := 0, locals := 48 } [.ref 64] 84 I J pRs (pOi (fun r I' J' => r = nI (fdN I J f) ∧ I' = I ∧ J' = J)) := by
  refine pMet_of (by decide) (Nat.le_of_ble_eq_true rfl) ?_
  refine pw_aload_n dX6_find_0 rfl ?_
  refine pw_getr dX6_find_1 fl_X6_23 rfl rfl (by decide) (by decide) rfl ?_
  refine pw_bipush (v := 8) dX6_find_4 (by decide) ?_
  refine pw_bipush (v := 8) dX6_find_6 (by decide) ?_
  refine pw_cSi (y := yX6_pack) (cc := cX6_pack) (nL := 5) (ret := (some .int)) (rm := { frames := 0, cells := 0, slots := 0, locals := 0 }) dX6_find_8 (r_pack (a := 67) (N := 16) (b := 8) (n := 8) _ _ rfl (by decide) (by decide) (by decide)) w_X6_151 rfl ⟨by decide, by decide⟩ (by decide) (by decide) rfl (Nat.le_of_ble_eq_true rfl) (fun x8 I8 J8 q8 => ?_)
  obtain ⟨rfl, rfl, rfl⟩ := rvq q8
  refine pw_istore_n dX6_find_11 (by decide) ?_
  refine pw_aload_n dX6_find_12 rfl ?_
  refine pw_iconst (v := 0) dX6_find_13 (by decide) ?_
  refine pw_cVl (ci := 6) (y := yX6_packed) (cc := cX6_packed) (nL := 5) (ret := (some .long)) (rm := { frames := 1, cells := 0, slots := 0, locals := 24 }) dX6_find_14 (r_packed (k := 0) _ _ (by decide)) w_X6_167 rfl (by decide) rfl ⟨by decide, by decide⟩ (by decide) (by decide) rfl (Nat.le_of_ble_eq_true rfl) (fun x14 I14 J14 q14 => ?_)
  obtain ⟨rfl, rfl, rfl⟩ := rvq q14
  refine pw_lstore_n dX6_find_17 (by decide) ?_
  refine pw_aload_n dX6_find_18 rfl ?_
  refine pw_iconst (v := 1) dX6_find_19 (by decide) ?_
  refine pw_cVl (ci := 6) (y := yX6_packed) (cc := cX6_packed) (nL := 5) (ret := (some .long)) (rm := { frames := 1, cells := 0, slots := 0, locals := 24 }) dX6_find_20 (r_packed (k := 1) _ _ (by decide)) w_X6_167 rfl (by decide) rfl ⟨by decide, by decide⟩ (by decide) (by decide) rfl (Nat.le_of_ble_eq_true rfl) (fun x20 I20 J20 q20 => ?_)
  obtain ⟨rfl, rfl, rfl⟩ := rvq q20
  refine pw_lstore dX6_find_23 (by decide) ?_
  refine pw_aload_n dX6_find_25 rfl ?_
  refine pw_iconst (v := 2) dX6_find_26 (by decide) ?_
  refine pw_cVl (ci := 6) (y := yX6_packed) (cc := cX6_packed) (nL := 5) (ret := (some .long)) (rm := { frames := 1, cells := 0, slots := 0, locals := 24 }) dX6_find_27 (r_packed (k := 2) _ _ (by decide)) w_X6_167 rfl (by decide) rfl ⟨by decide, by decide⟩ (by decide) (by decide) rfl (Nat.le_of_ble_eq_true rfl) (fun x27 I27 J27 q27 => ?_)
  obtain ⟨rfl, rfl, rfl⟩ := rvq q27
  refine pw_lstore dX6_find_30 (by decide) ?_
  refine pw_iconst (v := 0) dX6_find_32 (by decide) ?_
  refine pw_istore dX6_find_33 (by decide) ?_
  refine pw_loc (L' := [(0, .ref 64), (1, .int (fdW I)), (2, .long (rpk I 0)), (4, .long (rpk I 1)), (6, .long (rpk I 2)), (8, .int (nI 0))]) rfl ?_
  refine l_find I J _ hf3 hf f 0 (by omega) ?_
  rw [show fdL I J (fdW I) (rpk I 0) (rpk I 1) (rpk I 2) f 0 = fdN I J f from rfl]
  refine pw_iload dX6_find_99 rfl ?_
  refine pw_aload_n dX6_find_101 rfl ?_
  refine pw_geti dX6_find_102 fl_X6_171 rfl rfl (by decide) (by decide) ?_
  rw [hf]
  refine pw_icmp_ne (tgt := 152) dX6_find_105 (by decide) (fun _ => ?_) (fun q => absurd ((nI_eq (by omega) (by omega)).mp q) (by omega))
  refine pw_iload dX6_find_152 rfl ?_
  refine pw_iret dX6_find_154 rfl rfl (by decide) (by decide) ?_
  exact ⟨_, rfl, rfl, rfl, rfl, rfl, rfl⟩
set_option maxRecDepth 100000 in
set_option maxHeartbeats 4000000 in
theorem r_find_n {f : Nat} (I : pI) (J : pJ) (hf3 : f < 3000) (hf : I 64 12 = nI f) (hn : fdN I J f = f) : pMet yX6_find (pws yX6_find cX6_find 9 (some .int)) { frames := 2, cells := 0, slots := 0, locals := 48 } [.ref 64] 84 I J pRs (pOi (fun r I' J' => r = nI f ∧ I' = fdK I f ∧ J' = fdJ I J f)) := by
  refine pMet_of (by decide) (Nat.le_of_ble_eq_true rfl) ?_
  refine pw_aload_n dX6_find_0 rfl ?_
  refine pw_getr dX6_find_1 fl_X6_23 rfl rfl (by decide) (by decide) rfl ?_
  refine pw_bipush (v := 8) dX6_find_4 (by decide) ?_
  refine pw_bipush (v := 8) dX6_find_6 (by decide) ?_
  refine pw_cSi (y := yX6_pack) (cc := cX6_pack) (nL := 5) (ret := (some .int)) (rm := { frames := 0, cells := 0, slots := 0, locals := 0 }) dX6_find_8 (r_pack (a := 67) (N := 16) (b := 8) (n := 8) _ _ rfl (by decide) (by decide) (by decide)) w_X6_151 rfl ⟨by decide, by decide⟩ (by decide) (by decide) rfl (Nat.le_of_ble_eq_true rfl) (fun x8 I8 J8 q8 => ?_)
  obtain ⟨rfl, rfl, rfl⟩ := rvq q8
  refine pw_istore_n dX6_find_11 (by decide) ?_
  refine pw_aload_n dX6_find_12 rfl ?_
  refine pw_iconst (v := 0) dX6_find_13 (by decide) ?_
  refine pw_cVl (ci := 6) (y := yX6_packed) (cc := cX6_packed) (nL := 5) (ret := (some .long)) (rm := { frames := 1, cells := 0, slots := 0, locals := 24 }) dX6_find_14 (r_packed (k := 0) _ _ (by decide)) w_X6_167 rfl (by decide) rfl ⟨by decide, by decide⟩ (by decide) (by decide) rfl (Nat.le_of_ble_eq_true rfl) (fun x14 I14 J14 q14 => ?_)
  obtain ⟨rfl, rfl, rfl⟩ := rvq q14
  refine pw_lstore_n dX6_find_17 (by decide) ?_
  refine pw_aload_n dX6_find_18 rfl ?_
  refine pw_iconst (v := 1) dX6_find_19 (by decide) ?_
  refine pw_cVl (ci := 6) (y := yX6_packed) (cc := cX6_packed) (nL := 5) (ret := (some .long)) (rm := { frames := 1, cells := 0, slots := 0, locals := 24 }) dX6_find_20 (r_packed (k := 1) _ _ (by decide)) w_X6_167 rfl (by decide) rfl ⟨by decide, by decide⟩ (by decide) (by decide) rfl (Nat.le_of_ble_eq_true rfl) (fun x20 I20 J20 q20 => ?_)
  obtain ⟨rfl, rfl, rfl⟩ := rvq q20
  refine pw_lstore dX6_find_23 (by decide) ?_
  refine pw_aload_n dX6_find_25 rfl ?_
  refine pw_iconst (v := 2) dX6_find_26 (by decide) ?_
  refine pw_cVl (ci := 6) (y := yX6_packed) (cc := cX6_packed) (nL := 5) (ret := (some .long)) (rm := { frames := 1, cells := 0, slots := 0, locals := 24 }) dX6_find_27 (r_packed (k := 2) _ _ (by decide)) w_X6_167 rfl (by decide) rfl ⟨by decide, by decide⟩ (by decide) (by decide) rfl (Nat.le_of_ble_eq_true rfl) (fun x27 I27 J27 q27 => ?_)
  obtain ⟨rfl, rfl, rfl⟩ := rvq q27
  refine pw_lstore dX6_find_30 (by decide) ?_
  refine pw_iconst (v := 0) dX6_find_32 (by decide) ?_
  refine pw_istore dX6_find_33 (by decide) ?_
  refine pw_loc (L' := [(0, .ref 64), (1, .int (fdW I)), (2, .long (rpk I 0)), (4, .long (rpk I 1)), (6, .long (rpk I 2)), (8, .int (nI 0))]) rfl ?_
  refine l_find I J _ (by omega) hf f 0 (by omega) ?_
  rw [show fdL I J (fdW I) (rpk I 0) (rpk I 1) (rpk I 2) f 0 = fdN I J f from rfl]
  refine pw_iload dX6_find_99 rfl ?_
  refine pw_aload_n dX6_find_101 rfl ?_
  refine pw_geti dX6_find_102 fl_X6_171 rfl rfl (by decide) (by decide) ?_
  rw [hf, hn]
  refine pw_icmp_ne (tgt := 152) dX6_find_105 (by decide) (fun q => absurd rfl q) (fun _ => ?_)
  refine pw_aload_n dX6_find_108 rfl ?_
  refine pw_geti dX6_find_109 fl_X6_171 rfl rfl (by decide) (by decide) ?_
  refine pw_sipush (v := 3000) dX6_find_112 (by decide) ?_
  rw [hf]
  refine pw_icmp_ge (tgt := 152) dX6_find_115 (by decide) (fun q => absurd ((nI_leI (a := 3000) (b := f) (by decide) (by omega)).mp q) (by omega)) (fun _ => ?_)
  refine pw_aload_n dX6_find_118 rfl ?_
  refine pw_getr dX6_find_119 fl_X6_45 rfl rfl (by decide) (by decide) rfl ?_
  refine pw_iload dX6_find_122 rfl ?_
  refine pw_iload_n dX6_find_124 rfl ?_
  refine pw_iast dX6_find_125 rfl (by decide) (by decide) (vp_in_nI (by omega) (by decide)) ?_
  rw [nI_clamp (show f < 2 ^ 31 by omega)]
  refine pw_aload_n dX6_find_126 rfl ?_
  refine pw_getr dX6_find_127 fl_X6_48 rfl rfl (by decide) (by decide) rfl ?_
  refine pw_iload dX6_find_130 rfl ?_
  refine pw_lload_n dX6_find_132 rfl ?_
  refine pw_last dX6_find_133 rfl (by decide) (by decide) (vp_in_nI (by omega) (by decide)) ?_
  rw [nI_clamp (show f < 2 ^ 31 by omega)]
  refine pw_aload_n dX6_find_134 rfl ?_
  refine pw_getr dX6_find_135 fl_X6_52 rfl rfl (by decide) (by decide) rfl ?_
  refine pw_iload dX6_find_138 rfl ?_
  refine pw_lload dX6_find_140 rfl ?_
  refine pw_last dX6_find_142 rfl (by decide) (by decide) (vp_in_nI (by omega) (by decide)) ?_
  rw [nI_clamp (show f < 2 ^ 31 by omega)]
  refine pw_aload_n dX6_find_143 rfl ?_
  refine pw_getr dX6_find_144 fl_X6_55 rfl rfl (by decide) (by decide) rfl ?_
  refine pw_iload dX6_find_147 rfl ?_
  refine pw_lload dX6_find_149 rfl ?_
  refine pw_last dX6_find_151 rfl (by decide) (by decide) (vp_in_nI (by omega) (by decide)) ?_
  rw [nI_clamp (show f < 2 ^ 31 by omega)]
  refine pw_iload dX6_find_152 rfl ?_
  refine pw_iret dX6_find_154 rfl rfl (by decide) (by decide) ?_
  exact ⟨_, rfl, rfl, rfl, rfl, rfl, rfl⟩
set_option maxRecDepth 100000 in
set_option maxHeartbeats 4000000 in
theorem r_find_f (I : pI) (J : pJ) (hf : I 64 12 = nI 3000) (hn : fdN I J 3000 = 3000) : pMet yX6_find (pws yX6_find cX6_find 9 (some .int)) { frames := 2, cells := 0, slots := 0, locals := 48 } [.ref 64] 84 I J pRs (pOi (fun r I' J' => r = nI 3000 ∧ I' = I ∧ J' = J)) := by
  refine pMet_of (by decide) (Nat.le_of_ble_eq_true rfl) ?_
  refine pw_aload_n dX6_find_0 rfl ?_
  refine pw_getr dX6_find_1 fl_X6_23 rfl rfl (by decide) (by decide) rfl ?_
  refine pw_bipush (v := 8) dX6_find_4 (by decide) ?_
  refine pw_bipush (v := 8) dX6_find_6 (by decide) ?_
  refine pw_cSi (y := yX6_pack) (cc := cX6_pack) (nL := 5) (ret := (some .int)) (rm := { frames := 0, cells := 0, slots := 0, locals := 0 }) dX6_find_8 (r_pack (a := 67) (N := 16) (b := 8) (n := 8) _ _ rfl (by decide) (by decide) (by decide)) w_X6_151 rfl ⟨by decide, by decide⟩ (by decide) (by decide) rfl (Nat.le_of_ble_eq_true rfl) (fun x8 I8 J8 q8 => ?_)
  obtain ⟨rfl, rfl, rfl⟩ := rvq q8
  refine pw_istore_n dX6_find_11 (by decide) ?_
  refine pw_aload_n dX6_find_12 rfl ?_
  refine pw_iconst (v := 0) dX6_find_13 (by decide) ?_
  refine pw_cVl (ci := 6) (y := yX6_packed) (cc := cX6_packed) (nL := 5) (ret := (some .long)) (rm := { frames := 1, cells := 0, slots := 0, locals := 24 }) dX6_find_14 (r_packed (k := 0) _ _ (by decide)) w_X6_167 rfl (by decide) rfl ⟨by decide, by decide⟩ (by decide) (by decide) rfl (Nat.le_of_ble_eq_true rfl) (fun x14 I14 J14 q14 => ?_)
  obtain ⟨rfl, rfl, rfl⟩ := rvq q14
  refine pw_lstore_n dX6_find_17 (by decide) ?_
  refine pw_aload_n dX6_find_18 rfl ?_
  refine pw_iconst (v := 1) dX6_find_19 (by decide) ?_
  refine pw_cVl (ci := 6) (y := yX6_packed) (cc := cX6_packed) (nL := 5) (ret := (some .long)) (rm := { frames := 1, cells := 0, slots := 0, locals := 24 }) dX6_find_20 (r_packed (k := 1) _ _ (by decide)) w_X6_167 rfl (by decide) rfl ⟨by decide, by decide⟩ (by decide) (by decide) rfl (Nat.le_of_ble_eq_true rfl) (fun x20 I20 J20 q20 => ?_)
  obtain ⟨rfl, rfl, rfl⟩ := rvq q20
  refine pw_lstore dX6_find_23 (by decide) ?_
  refine pw_aload_n dX6_find_25 rfl ?_
  refine pw_iconst (v := 2) dX6_find_26 (by decide) ?_
  refine pw_cVl (ci := 6) (y := yX6_packed) (cc := cX6_packed) (nL := 5) (ret := (some .long)) (rm := { frames := 1, cells := 0, slots := 0, locals := 24 }) dX6_find_27 (r_packed (k := 2) _ _ (by decide)) w_X6_167 rfl (by decide) rfl ⟨by decide, by decide⟩ (by decide) (by decide) rfl (Nat.le_of_ble_eq_true rfl) (fun x27 I27 J27 q27 => ?_)
  obtain ⟨rfl, rfl, rfl⟩ := rvq q27
  refine pw_lstore dX6_find_30 (by decide) ?_
  refine pw_iconst (v := 0) dX6_find_32 (by decide) ?_
  refine pw_istore dX6_find_33 (by decide) ?_
  refine pw_loc (L' := [(0, .ref 64), (1, .int (fdW I)), (2, .long (rpk I 0)), (4, .long (rpk I 1)), (6, .long (rpk I 2)), (8, .int (nI 0))]) rfl ?_
  refine l_find (f := 3000) I J _ (by decide) hf 3000 0 (by omega) ?_
  rw [show fdL I J (fdW I) (rpk I 0) (rpk I 1) (rpk I 2) 3000 0 = fdN I J 3000 from rfl]
  refine pw_iload dX6_find_99 rfl ?_
  refine pw_aload_n dX6_find_101 rfl ?_
  refine pw_geti dX6_find_102 fl_X6_171 rfl rfl (by decide) (by decide) ?_
  rw [hf, hn]
  refine pw_icmp_ne (tgt := 152) dX6_find_105 (by decide) (fun q => absurd rfl q) (fun _ => ?_)
  refine pw_aload_n dX6_find_108 rfl ?_
  refine pw_geti dX6_find_109 fl_X6_171 rfl rfl (by decide) (by decide) ?_
  refine pw_sipush (v := 3000) dX6_find_112 (by decide) ?_
  rw [hf]
  refine pw_icmp_ge (tgt := 152) dX6_find_115 (by decide) (fun _ => ?_) (fun q => absurd (nI_le (a := 3000) (b := 3000) (by decide) (by decide)) q)
  refine pw_iload dX6_find_152 rfl ?_
  refine pw_iret dX6_find_154 rfl rfl (by decide) (by decide) ?_
  exact ⟨_, rfl, rfl, rfl, rfl, rfl, rfl⟩
abbrev m_X6_hasTwoInside : pT := (yX6_hasTwoInside.cls, cX6_hasTwoInside, 3, (some .boolean), { frames := 0, cells := 0, slots := 0, locals := 0 }, [], none)
def hwL (K : pI) : Nat → Nat → Nat → Nat
  | 0, _, x => x
  | m + 1, k, x => hwL K m (k + 1) (if K 68 (3 + k) = 2 then x + 1 else x)
theorem hwL_le (K : pI) : ∀ (m k x : Nat), hwL K m k x ≤ x + m := by
  intro m
  induction m with
  | zero => intro k x; exact Nat.le_refl _
  | succ m ih => intro k x; rw [hwL]; have := ih (k + 1) (if K 68 (3 + k) = 2 then x + 1 else x); split at this <;> rename_i h <;> simp only [h, if_true, if_false] <;> omega
set_option maxRecDepth 100000 in
set_option maxHeartbeats 4000000 in
theorem l_two {c : Nat} (I : pI) (J : pJ) (Q : pQ) (hc : c ≤ 3) (hI : I 64 2 = nI c) : ∀ (m k x : Nat), k + m = c → x ≤ k → Q (.inl (some (.int (if 1 < hwL I m k x then 1 else 0)))) 84 I J pRs → PW m_X6_hasTwoInside Q 4 [(0, .ref 64), (1, .int (nI x)), (2, .int (nI k))] [] 84 I J pRs 0 0 := by
  intro m
  induction m with
  | zero =>
    intro k x hkm hx hQ
    refine pw_iload_n dX6_hasTwoInside_4 rfl ?_
    refine pw_aload_n dX6_hasTwoInside_5 rfl ?_
    refine pw_geti dX6_hasTwoInside_6 fl_X6_13 rfl rfl (by decide) (by decide) ?_
    refine pw_icmp_ge (tgt := 38) dX6_hasTwoInside_9 (by decide) (fun h9 => ?_) (fun h9 => ?_)
    · refine pw_iload_n dX6_hasTwoInside_38 rfl ?_
      refine pw_iconst (v := 1) dX6_hasTwoInside_39 (by decide) ?_
      refine pw_icmp_le (tgt := 47) dX6_hasTwoInside_40 (by decide) (fun h40 => ?_) (fun h40 => ?_)
      · refine pw_iconst (v := 0) dX6_hasTwoInside_47 (by decide) ?_
        refine pw_iret dX6_hasTwoInside_48 rfl rfl (by decide) (by decide) ?_
        rw [hwL, if_neg (fun z => absurd ((nI_leI (b := 1) (by omega) (by decide)).mp h40) (by omega))] at hQ
        exact hQ
      · refine pw_iconst (v := 1) dX6_hasTwoInside_43 (by decide) ?_
        refine pw_goto (tgt := 48) dX6_hasTwoInside_44 (by decide) ?_
        refine pw_iret dX6_hasTwoInside_48 rfl rfl (by decide) (by decide) ?_
        rw [hwL, if_pos (Nat.lt_of_not_le (fun z => h40 (nI_le (b := 1) z (by decide))))] at hQ
        exact hQ
    · rw [hI] at h9
      exact absurd (nI_le (by omega) (by omega)) h9
  | succ m ih =>
    intro k x hkm hx hQ
    refine pw_iload_n dX6_hasTwoInside_4 rfl ?_
    refine pw_aload_n dX6_hasTwoInside_5 rfl ?_
    refine pw_geti dX6_hasTwoInside_6 fl_X6_13 rfl rfl (by decide) (by decide) ?_
    refine pw_icmp_ge (tgt := 38) dX6_hasTwoInside_9 (by decide) (fun h9 => ?_) (fun h9 => ?_)
    · rw [hI] at h9
      exact absurd ((nI_leI (a := c) (b := k) (by omega) (by omega)).mp h9) (by omega)
    · refine pw_aload_n dX6_hasTwoInside_12 rfl ?_
      refine pw_getr dX6_hasTwoInside_13 fl_X6_26 rfl rfl (by decide) (by decide) rfl ?_
      refine pw_iconst (v := 3) dX6_hasTwoInside_16 (by decide) ?_
      refine pw_iload_n dX6_hasTwoInside_17 rfl ?_
      refine pw_iadd dX6_hasTwoInside_18 ?_
      rw [ixA 3 k 3 (by decide)]
      refine pw_iald dX6_hasTwoInside_19 rfl (by decide) (by decide) (vp_in_nI (by omega) (by decide)) ?_
      rw [nI_clamp (show 3 + k < 2 ^ 31 by omega)]
      refine pw_iconst (v := 2) dX6_hasTwoInside_20 (by decide) ?_
      refine pw_icmp_ne (tgt := 30) dX6_hasTwoInside_21 (by decide) (fun h21 => ?_) (fun h21 => ?_)
      · refine pw_iload_n dX6_hasTwoInside_30 rfl ?_
        refine pw_istore_n dX6_hasTwoInside_31 (by decide) ?_
        refine pw_iinc (v := nI (k + 1)) dX6_hasTwoInside_32 rfl (by rw [nI_succ]; rfl) (by decide) ?_
        refine pw_goto (tgt := 4) dX6_hasTwoInside_35 (by decide) ?_
        refine pw_loc (L' := [(0, .ref 64), (1, .int (nI x)), (2, .int (nI (k + 1)))]) rfl ?_
        exact ih (k + 1) _ (by omega) (by omega) (by rw [hwL, if_neg h21] at hQ; exact hQ)
      · refine pw_iload_n dX6_hasTwoInside_24 rfl ?_
        refine pw_iconst (v := 1) dX6_hasTwoInside_25 (by decide) ?_
        refine pw_iadd dX6_hasTwoInside_26 ?_
        refine pw_goto (tgt := 31) dX6_hasTwoInside_27 (by decide) ?_
        rw [nI_1]
        refine pw_istore_n dX6_hasTwoInside_31 (by decide) ?_
        refine pw_iinc (v := nI (k + 1)) dX6_hasTwoInside_32 rfl (by rw [nI_succ]; rfl) (by decide) ?_
        refine pw_goto (tgt := 4) dX6_hasTwoInside_35 (by decide) ?_
        refine pw_loc (L' := [(0, .ref 64), (1, .int (nI (x + 1))), (2, .int (nI (k + 1)))]) rfl ?_
        exact ih (k + 1) _ (by omega) (by omega) (by rw [hwL, if_pos h21] at hQ; exact hQ)
set_option maxRecDepth 100000 in
set_option maxHeartbeats 4000000 in
theorem r_twoIn {c : Nat} (I : pI) (J : pJ) (hc : c ≤ 3) (hI : I 64 2 = nI c) : pMet yX6_hasTwoInside (pws yX6_hasTwoInside cX6_hasTwoInside 3 (some .boolean)) { frames := 0, cells := 0, slots := 0, locals := 0 } [.ref 64] 84 I J pRs (pOi (fun r I' J' => r = (if 1 < hwL I c 0 0 then 1 else 0) ∧ I' = I ∧ J' = J)) := by
  refine pMet_of (by decide) (Nat.le_of_ble_eq_true rfl) ?_
  refine pw_iconst (v := 0) dX6_hasTwoInside_0 (by decide) ?_
  refine pw_istore_n dX6_hasTwoInside_1 (by decide) ?_
  refine pw_iconst (v := 0) dX6_hasTwoInside_2 (by decide) ?_
  refine pw_istore_n dX6_hasTwoInside_3 (by decide) ?_
  refine pw_loc (L' := [(0, .ref 64), (1, .int (nI 0)), (2, .int (nI 0))]) rfl ?_
  exact l_two I J _ hc hI c 0 0 (by omega) (by omega) ⟨_, rfl, rfl, rfl, rfl, rfl, rfl⟩
abbrev m_X6_isOver : pT := (yX6_isOver.cls, cX6_isOver, 3, (some .boolean), { frames := 0, cells := 0, slots := 0, locals := 0 }, [], none)
abbrev ovP (K : pI) (c : Nat) : Prop := ∀ k, k < c → K 68 (3 + k) = 0 ∧ K 81 k = 0
set_option maxRecDepth 100000 in
set_option maxHeartbeats 4000000 in
theorem l_over0 {c : Nat} (I : pI) (J : pJ) (Q : pQ) (hc : c ≤ 3) (hI : I 64 2 = nI c) (hQ : Q (.inl (some (.int 0))) 84 I J pRs) : ∀ (m k : Nat), k + m = c → PW m_X6_isOver Q 4 [(0, .ref 64), (1, .int 0), (2, .int (nI k))] [] 84 I J pRs 0 0 := by
  intro m
  induction m with
  | zero =>
    intro k hkm
    refine pw_iload_n dX6_isOver_4 rfl ?_
    refine pw_aload_n dX6_isOver_5 rfl ?_
    refine pw_geti dX6_isOver_6 fl_X6_13 rfl rfl (by decide) (by decide) ?_
    refine pw_icmp_ge (tgt := 48) dX6_isOver_9 (by decide) (fun h9 => ?_) (fun h9 => ?_)
    · refine pw_iload_n dX6_isOver_48 rfl ?_
      refine pw_iret dX6_isOver_49 rfl rfl (by decide) (by decide) ?_
      exact hQ
    · rw [hI] at h9
      exact absurd (nI_le (by omega) (by omega)) h9
  | succ m ih =>
    intro k hkm
    refine pw_iload_n dX6_isOver_4 rfl ?_
    refine pw_aload_n dX6_isOver_5 rfl ?_
    refine pw_geti dX6_isOver_6 fl_X6_13 rfl rfl (by decide) (by decide) ?_
    refine pw_icmp_ge (tgt := 48) dX6_isOver_9 (by decide) (fun h9 => ?_) (fun h9 => ?_)
    · rw [hI] at h9
      exact absurd ((nI_leI (a := c) (b := k) (by omega) (by omega)).mp h9) (by omega)
    · refine pw_iload_n dX6_isOver_12 rfl ?_
      refine pw_if_eq (tgt := 40) dX6_isOver_13 (by decide) (fun _ => ?_) (fun z => absurd rfl z)
      refine pw_iconst (v := 0) dX6_isOver_40 (by decide) ?_
      refine pw_istore_n dX6_isOver_41 (by decide) ?_
      refine pw_iinc (v := nI (k + 1)) dX6_isOver_42 rfl (by rw [nI_succ]; rfl) (by decide) ?_
      refine pw_goto (tgt := 4) dX6_isOver_45 (by decide) ?_
      refine pw_loc (L' := [(0, .ref 64), (1, .int 0), (2, .int (nI (k + 1)))]) rfl ?_
      exact ih (k + 1) (by omega)
set_option maxRecDepth 100000 in
set_option maxHeartbeats 4000000 in
theorem l_over {c : Nat} (I : pI) (J : pJ) (Q : pQ) (hc : c ≤ 3) (hI : I 64 2 = nI c) : ∀ (m k : Nat), k + m = c → Q (.inl (some (.int (if ∀ k', k' < c → k ≤ k' → I 68 (3 + k') = 0 ∧ I 81 k' = 0 then 1 else 0)))) 84 I J pRs → PW m_X6_isOver Q 4 [(0, .ref 64), (1, .int 1), (2, .int (nI k))] [] 84 I J pRs 0 0 := by
  intro m
  induction m with
  | zero =>
    intro k hkm hQ
    refine pw_iload_n dX6_isOver_4 rfl ?_
    refine pw_aload_n dX6_isOver_5 rfl ?_
    refine pw_geti dX6_isOver_6 fl_X6_13 rfl rfl (by decide) (by decide) ?_
    refine pw_icmp_ge (tgt := 48) dX6_isOver_9 (by decide) (fun h9 => ?_) (fun h9 => ?_)
    · refine pw_iload_n dX6_isOver_48 rfl ?_
      refine pw_iret dX6_isOver_49 rfl rfl (by decide) (by decide) ?_
      rw [if_pos (fun k2 h2 h1 => absurd h2 (by omega))] at hQ
      exact hQ
    · rw [hI] at h9
      exact absurd (nI_le (by omega) (by omega)) h9
  | succ m ih =>
    intro k hkm hQ
    refine pw_iload_n dX6_isOver_4 rfl ?_
    refine pw_aload_n dX6_isOver_5 rfl ?_
    refine pw_geti dX6_isOver_6 fl_X6_13 rfl rfl (by decide) (by decide) ?_
    refine pw_icmp_ge (tgt := 48) dX6_isOver_9 (by decide) (fun h9 => ?_) (fun h9 => ?_)
    · rw [hI] at h9
      exact absurd ((nI_leI (a := c) (b := k) (by omega) (by omega)).mp h9) (by omega)
    · refine pw_iload_n dX6_isOver_12 rfl ?_
      refine pw_if_eq (tgt := 40) dX6_isOver_13 (by decide) (fun z => absurd z (by decide)) (fun _ => ?_)
      refine pw_aload_n dX6_isOver_16 rfl ?_
      refine pw_getr dX6_isOver_17 fl_X6_26 rfl rfl (by decide) (by decide) rfl ?_
      refine pw_iconst (v := 3) dX6_isOver_20 (by decide) ?_
      refine pw_iload_n dX6_isOver_21 rfl ?_
      refine pw_iadd dX6_isOver_22 ?_
      rw [ixA 3 k 3 (by decide)]
      refine pw_iald dX6_isOver_23 rfl (by decide) (by decide) (vp_in_nI (by omega) (by decide)) ?_
      rw [nI_clamp (show 3 + k < 2 ^ 31 by omega)]
      refine pw_if_ne (tgt := 40) dX6_isOver_24 (by decide) (fun h24 => ?_) (fun h24 => ?_)
      · refine pw_iconst (v := 0) dX6_isOver_40 (by decide) ?_
        refine pw_istore_n dX6_isOver_41 (by decide) ?_
        refine pw_iinc (v := nI (k + 1)) dX6_isOver_42 rfl (by rw [nI_succ]; rfl) (by decide) ?_
        refine pw_goto (tgt := 4) dX6_isOver_45 (by decide) ?_
        refine pw_loc (L' := [(0, .ref 64), (1, .int 0), (2, .int (nI (k + 1)))]) rfl ?_
        rw [if_neg (fun z => h24 (z k (by omega) (Nat.le_refl _)).1)] at hQ
        exact l_over0 I J Q hc hI hQ m (k + 1) (by omega)
      · refine pw_aload_n dX6_isOver_27 rfl ?_
        refine pw_getr dX6_isOver_28 fl_X6_67 rfl rfl (by decide) (by decide) rfl ?_
        refine pw_iload_n dX6_isOver_31 rfl ?_
        refine pw_iald dX6_isOver_32 rfl (by decide) (by decide) (vp_in_nI (by omega) (by decide)) ?_
        rw [nI_clamp (show k < 2 ^ 31 by omega)]
        refine pw_if_ne (tgt := 40) dX6_isOver_33 (by decide) (fun h33 => ?_) (fun h33 => ?_)
        · refine pw_iconst (v := 0) dX6_isOver_40 (by decide) ?_
          refine pw_istore_n dX6_isOver_41 (by decide) ?_
          refine pw_iinc (v := nI (k + 1)) dX6_isOver_42 rfl (by rw [nI_succ]; rfl) (by decide) ?_
          refine pw_goto (tgt := 4) dX6_isOver_45 (by decide) ?_
          refine pw_loc (L' := [(0, .ref 64), (1, .int 0), (2, .int (nI (k + 1)))]) rfl ?_
          rw [if_neg (fun z => h33 (z k (by omega) (Nat.le_refl _)).2)] at hQ
          exact l_over0 I J Q hc hI hQ m (k + 1) (by omega)
        · refine pw_iconst (v := 1) dX6_isOver_36 (by decide) ?_
          refine pw_goto (tgt := 41) dX6_isOver_37 (by decide) ?_
          refine pw_istore_n dX6_isOver_41 (by decide) ?_
          refine pw_iinc (v := nI (k + 1)) dX6_isOver_42 rfl (by rw [nI_succ]; rfl) (by decide) ?_
          refine pw_goto (tgt := 4) dX6_isOver_45 (by decide) ?_
          refine pw_loc (L' := [(0, .ref 64), (1, .int 1), (2, .int (nI (k + 1)))]) rfl ?_
          refine ih (k + 1) (by omega) ?_
          have e8 : (∀ k', k' < c → k + 1 ≤ k' → I 68 (3 + k') = 0 ∧ I 81 k' = 0) ↔ (∀ k', k' < c → k ≤ k' → I 68 (3 + k') = 0 ∧ I 81 k' = 0) := by
            refine ⟨fun z k' h2 h1 => ?_, fun z k' h2 h1 => z k' h2 (by omega)⟩
            rcases Nat.eq_or_lt_of_le h1 with h | h
            · subst h; exact ⟨h24, h33⟩
            · exact z k' h2 h
          rw [if_c e8]
          exact hQ
set_option maxRecDepth 100000 in
set_option maxHeartbeats 4000000 in
theorem r_isOver {c : Nat} (I : pI) (J : pJ) (hc : c ≤ 3) (hI : I 64 2 = nI c) : pMet yX6_isOver (pws yX6_isOver cX6_isOver 3 (some .boolean)) { frames := 0, cells := 0, slots := 0, locals := 0 } [.ref 64] 84 I J pRs (pOi (fun r I' J' => r = (if ovP I c then 1 else 0) ∧ I' = I ∧ J' = J)) := by
  refine pMet_of (by decide) (Nat.le_of_ble_eq_true rfl) ?_
  refine pw_iconst (v := 1) dX6_isOver_0 (by decide) ?_
  refine pw_istore_n dX6_isOver_1 (by decide) ?_
  refine pw_iconst (v := 0) dX6_isOver_2 (by decide) ?_
  refine pw_istore_n dX6_isOver_3 (by decide) ?_
  refine pw_loc (L' := [(0, .ref 64), (1, .int 1), (2, .int (nI 0))]) rfl ?_
  refine l_over I J _ hc hI c 0 (by omega) ⟨_, rfl, rfl, rfl, ?_, rfl, rfl⟩
  exact if_c ⟨fun z k h => z k h (by omega), fun z k h _ => z k h⟩
