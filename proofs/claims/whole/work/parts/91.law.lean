/-! THE LAW -/
def scr (b L : Nat) (xs : Nat → Int32) : pEnv → (Nat → Prop) → State → Prop := fun V A s => pEnv.sa V 6 = b ∧ va_X b L xs s s.heap ∧ b < s.heap.size ∧ ¬ A b
abbrev mLaw (b L : Nat) (xs : Nat → Int32) : pT := (RL, cL_law, 7, some .boolean, { frames := 11, cells := 601024, slots := 7293034, locals := 388 }, [], some (0, false, scr b L xs))
def pWW (own : String) (idx : Nat) (y : MethodName) (cc : ByteArray) (nL : Nat) (ret : Option FieldType) (hh : List (Nat × Nat × Nat × Nat)) (na : Nat) : Bool :=
  pIn (.methodLink own idx y) && (pIn (.static y) && (pIn (.initialized y.cls) && (pIn (.codeWith y cc nL ret hh) && (decide (y.cls ≠ "java/lang/invoke/MethodHandle" ∧ y.cls ≠ "java/lang/invoke/VarHandle") && decide ((parseMethodDescriptor y.desc).map (fun d => d.parameters.length) = some na)))))
section Rows
variable {M : pT} {Q Q' : pQ} {pc : Nat} {L : List (Nat × Value)} {st : List Value} {n : Nat} {I : pI} {J : pJ} {P : pP} {kc ks : Nat}
theorem rv_scr {V : pEnv} {b : Nat} (h : pEnv.sa V 6 = b) : rv V (.ref 1006) = .ref b := by
  show Value.ref (ra V 1006) = _
  unfold ra
  rw [if_neg (by decide), show 1006 - 1000 = 6 from rfl, h]
theorem pw_xlen {b Ln n0 : Nat} {i : Bool} {xs : Nat → Int32} (hd : decode (pT.cc M) pc = .ok (.arraylength, 1)) (hz9 : pT.z M = some (n0, i, scr b Ln xs)) (kk : PW M Q (pc + 1) L (.int (nI Ln) :: st) n I J P kc ks) : PW M Q pc L (.ref 1006 :: st) n I J P kc ks := by
  intro V A p l e s m args below meth c H locs ls C hP hS hn hz hl
  obtain ⟨hx, hb, hr, hml, hown, hts, hlo, htb, hK, hA, hF, hst, hE⟩ := id C
  obtain ⟨s1, s2, s3, s4⟩ := (hE n0 i _ hz9).2.2.2
  rw [List.map_cons, rv_scr s1]
  exact va_slen hx hb s2 s3 s4 hS hd (kk V A p l e s m args below meth c H locs ls C hP hS hn hz hl)
theorem pw_xld {b Ln n0 j : Nat} {i : Bool} {xs : Nat → Int32} {x : Int32} (hd : decode (pT.cc M) pc = .ok (.iaload, 1)) (hz9 : pT.z M = some (n0, i, scr b Ln xs)) (hx9 : x = nI j) (hj : j < Ln) (hLn : Ln ≤ 3072) (kk : PW M Q (pc + 1) L (.int (xs j) :: st) n I J P kc ks) : PW M Q pc L (.int x :: .ref 1006 :: st) n I J P kc ks := by
  intro V A p l e s m args below meth c H locs ls C hP hS hn hz hl
  obtain ⟨hx, hb, hr, hml, hown, hts, hlo, htb, hK, hA, hF, hst, hE⟩ := id C
  obtain ⟨s1, s2, s3, s4⟩ := (hE n0 i _ hz9).2.2.2
  subst hx9
  rw [List.map_cons, List.map_cons, rv_scr s1]
  refine va_sld hx hb s2 s3 s4 hS (vp_in_nI hj (by omega)) hd ?_
  rw [nI_clamp (by omega)]
  exact kk V A p l e s m args below meth c H locs ls C hP hS hn hz hl
theorem pw_cSW {y : MethodName} {cc : ByteArray} {nL : Nat} {ret : Option FieldType} {rm : Room} {as st0 : List Value} {idx : Nat} {hh : List (Nat × Nat × Nat × Nat)} {post : Int32 → pI → pJ → Prop} (hd : decode (pT.cc M) pc = .ok (.invokestatic idx, 3)) (hM : pMet y (pwh y cc nL ret hh) rm as 84 I J pRs (pOi post)) (hw : pWW (pT.own M) idx y cc nL ret hh as.length = true) (hh9 : pT.hh M = [])
    (hR : rm.frames + 1 ≤ (pT.R M).frames ∧ 8 + (nL + 11) + rm.locals ≤ (pT.R M).locals) (hc : kc + rm.cells ≤ (pT.R M).cells) (hs : ks + rm.slots ≤ (pT.R M).slots) (h0 : st0 = as.reverse ++ st) (h8 : (st.map fun v => v.category).sum ≤ 8)
    (kk : ∀ x I' J', post x I' J' → PW M Q (pc + 3) L (.int x :: st) 84 I' J' pRs (kc + rm.cells) (ks + rm.slots)) : PW M Q pc L st0 84 I J pRs kc ks := by
  intro V A p l e s m args below meth c H locs ls C hP hS hn hz hl
  obtain ⟨hx, hb, hr, hml, hown, hts, hlo, htb, hK, hA, hF, hst, hE⟩ := id C
  simp only [pWW, Bool.and_eq_true, decide_eq_true_eq] at hw
  obtain ⟨w1, w2, w3, w5, w8, w9⟩ := hw
  have hG : GoodIn pww (va_wsS (pT.own M) idx y (pwh y cc nL ret hh)) := pww_good (fun _ h => h) (fun w h => by
    rcases List.mem_append.mp h with h | h
    · simp only [List.mem_cons, List.not_mem_nil, or_false] at h
      rcases h with rfl | rfl | rfl
      · exact pIn_mem w1
      · exact pIn_mem w2
      · exact pIn_mem w3
    · rcases List.mem_cons.mp h with rfl | h
      · exact pIn_mem w5
      · exact h)
  have hrun := vx_runSW (p := p) (l := l) (e := e) (R := pT.R M) (below := below) (meth := meth) (H := H) (locs := locs) (cells := kc) (slots := ks) (g := F0 m pc ls (st0.map (rv V))) (As := as.map (rv V)) (rest := st.map (rv V)) (Ts := pww) (hh := hh) ⟨hx, hb, hml, hown, hts⟩ (met_of_vx (hM l V H.size hst) (fun E st t h => by obtain ⟨⟨n', I', J', P', ⟨_, h, -⟩, -⟩, -⟩ := h; cases h)) (vx_cwSW as.length hts hG rfl rfl rfl ⟨w8.1, w8.2, w9⟩ hR)
    ⟨pPc_blind V _ 84 I J pRs H.size, pw_pre (as := as) C hP hS hn hz⟩ rfl (by simp) hl.1 (by
      show st0.map (rv V) = _
      rw [h0]; simp) (by
      have e9 : ((st.map (rv V)).map fun v => v.category) = st.map fun v => v.category := by simp [List.map_map, Function.comp_def, rv_cat]
      show 2 * (F0 m pc ls (st0.map (rv V))).monitorRoom + _ ≤ 8
      rw [e9]; simpa [JFrame.monitorRoom] using h8) hd ⟨hc, hs⟩
  refine pw_run (Q' := pOi post) (mc := rm.cells) (ms := rm.slots) C hh9 hS hn hl (fun T hT X => Or.inl (hrun T hT X)) hc hs (fun E n' I' J' P' h => by obtain ⟨_, h, -⟩ := h; cases h) (fun r n' I' J' P' h => ?_)
  obtain ⟨x, h1, rfl, rfl, h2⟩ := h
  cases h1
  exact kk x I' J' h2
end Rows
theorem lw_lt {L j : Nat} (hL : L ≤ 3072) (hj : j ≤ 600) (h : ¬ (nI L - 6 < nI (6 * j))) : 6 * j + 6 ≤ L := by
  have e : (nI L - nI 6).toInt = (L : Int) - 6 := pk_sub_toInt (by omega) (by decide)
  have h2 : ¬ ((nI L - nI 6).toInt < (nI (6 * j)).toInt) := fun z => h (Int32.lt_iff_toInt_lt.mpr z)
  rw [e, nI_toInt (by omega)] at h2
  omega
theorem lw_ge {L j : Nat} (hL : L ≤ 3072) (hj : j ≤ 600) (h : L < 6 * j + 6) : nI L - 6 < nI (6 * j) := by
  have e : (nI L - nI 6).toInt = (L : Int) - 6 := pk_sub_toInt (by omega) (by decide)
  refine Int32.lt_iff_toInt_lt.mpr ?_
  show (nI L - nI 6).toInt < (nI (6 * j)).toInt
  rw [e, nI_toInt (by omega)]
  omega
theorem ww_57 : pWW RL 57 yL_exhibit cL_exhibit 4 (some .int) [(0, 6, 9, 13)] 3 = true := by decide +kernel
theorem ww_67 : pWW RL 67 yL_change cL_change 7 (some .int) [(0, 11, 14, 13)] 6 = true := by decide +kernel
theorem ww_75 : pWW RL 75 yL_want cL_want 3 (some .int) [(0, 5, 8, 13), (0, 5, 11, 23)] 2 = true := by decide +kernel
theorem ww_79 : pWW RL 79 yL_step cL_step 4 (some .int) [(0, 9, 12, 13), (0, 9, 15, 23)] 3 = true := by decide +kernel
theorem ww_83 : pWW RL 83 yL_leave cL_leave 3 (some .int) [(0, 5, 8, 13), (0, 5, 11, 23)] 2 = true := by decide +kernel
theorem ww_86 : pWW RL 86 yL_word cL_word 4 (some .int) [(0, 9, 12, 35)] 3 = true := by decide +kernel
theorem ww_89 : pWW RL 89 yL_register cL_register 5 (some .int) [(0, 10, 13, 13), (0, 10, 17, 35)] 4 = true := by decide +kernel
theorem ww_93 : pWW RL 93 yL_about cL_about 5 (some .int) [(0, 10, 13, 13)] 4 = true := by decide +kernel
theorem ww_96 : pWW RL 96 yL_run cL_run 5 (some .int) [(0, 10, 13, 13)] 4 = true := by decide +kernel
theorem ww_99 : pWW RL 99 yL_judge cL_judge 4 (some .int) [(0, 9, 12, 13)] 3 = true := by decide +kernel
theorem ww_106 : pWW RL 106 yL_trail cL_trail 4 (some .int) [(0, 9, 12, 35)] 3 = true := by decide +kernel
set_option maxRecDepth 100000 in
set_option maxHeartbeats 4000000 in
theorem l_law {b L : Nat} {xs : Nat → Int32} (hL : L ≤ 3072) (Q : pQ) (hQ : ∀ n' I' J' P', Q (.inl (some (.int 1))) n' I' J' P') : ∀ (m j : Nat) (I : pI) (J : pJ) (c : Nat), L < 6 * j + 6 * m + 6 → 6 * j ≤ L + 6 → LI I c → PW (mLaw b L xs) Q 23 [(0, .ref 1006), (1, .ref 0), (2, .ref 64), (3, .ref 83), (4, .int (nI (6 * j)))] [] 84 I J pRs (84 + 2 * j) (68892 + 12 * j) := by
  intro m
  induction m with
  | zero =>
    intro j I J c hm hj hLI
    refine pw_iload dL_law_23 rfl ?_
    refine pw_aload_n dL_law_25 rfl ?_
    refine pw_xlen dL_law_26 rfl ?_
    refine pw_bipush (v := 6) dL_law_27 (by decide) ?_
    refine pw_isub dL_law_29 ?_
    refine pw_icmp_gt (tgt := 770) dL_law_30 (by decide) (fun h30 => ?_) (fun h30 => ?_)
    · refine pw_iconst (v := 1) dL_law_770 (by decide) ?_
      refine pw_iret dL_law_771 rfl rfl (by show _ ≤ 601024; omega) (by show _ ≤ 7293034; omega) ?_
      exact hQ _ _ _ _
    · exact absurd (lw_ge hL (by omega) (by omega)) h30
  | succ m ih =>
    intro j I J c hm hj hLI
    refine pw_iload dL_law_23 rfl ?_
    refine pw_aload_n dL_law_25 rfl ?_
    refine pw_xlen dL_law_26 rfl ?_
    refine pw_bipush (v := 6) dL_law_27 (by decide) ?_
    refine pw_isub dL_law_29 ?_
    refine pw_icmp_gt (tgt := 770) dL_law_30 (by decide) (fun h30 => ?_) (fun h30 => ?_)
    · refine pw_iconst (v := 1) dL_law_770 (by decide) ?_
      refine pw_iret dL_law_771 rfl rfl (by show _ ≤ 601024; omega) (by show _ ≤ 7293034; omega) ?_
      exact hQ _ _ _ _
    · have h6 := lw_lt hL (by omega) h30
      refine pw_aload_n dL_law_33 rfl ?_
      refine pw_iload dL_law_34 rfl ?_
      refine pw_xld (j := 6 * j) dL_law_36 rfl rfl (by omega) hL ?_
      refine pw_bipush (v := 15) dL_law_37 (by decide) ?_
      refine pw_iand dL_law_39 ?_
      refine pw_tsw dL_law_40 (fun i40 hi40 s40 => ?_) (fun o40 => ?_)
      · rcases (show i40 = 0 ∨ i40 = 1 ∨ i40 = 2 ∨ i40 = 3 ∨ i40 = 4 ∨ i40 = 5 ∨ i40 = 6 ∨ i40 = 7 ∨ i40 = 8 ∨ i40 = 9 ∨ i40 = 10 ∨ i40 = 11 ∨ i40 = 12 by omega) with rfl | rfl | rfl | rfl | rfl | rfl | rfl | rfl | rfl | rfl | rfl | rfl | rfl
        · replace s40 := s40.trans (show _ = (0 : Int32) by decide)
          refine ⟨_, 108, rfl, by decide, ?_⟩
          obtain ⟨P1, hM1, hK1⟩ := k_exhibit J (xs (6 * j + 1)) (xs (6 * j + 2)) hLI
          refine pw_aload_n dL_law_108 rfl ?_
          refine pw_aload_n dL_law_109 rfl ?_
          refine pw_iload dL_law_110 rfl ?_
          refine pw_iconst (v := 1) dL_law_112 (by decide) ?_
          refine pw_iadd dL_law_113 ?_
          refine pw_xld (j := 6 * j + 1) dL_law_114 rfl (by rw [show (1 : Int32) = nI 1 by decide, nI_add]) (by omega) hL ?_
          refine pw_aload_n dL_law_115 rfl ?_
          refine pw_iload dL_law_116 rfl ?_
          refine pw_iconst (v := 2) dL_law_118 (by decide) ?_
          refine pw_iadd dL_law_119 ?_
          refine pw_xld (j := 6 * j + 2) dL_law_120 rfl (by rw [show (2 : Int32) = nI 2 by decide, nI_add]) (by omega) hL ?_
          refine pw_cSW (y := yL_exhibit) (cc := cL_exhibit) (nL := 4) (ret := (some .int)) (rm := { frames := 7, cells := 1, slots := 6, locals := 112 }) dL_law_121 hM1 ww_57 rfl ⟨(Nat.le_of_ble_eq_true rfl), (Nat.le_of_ble_eq_true rfl)⟩ (by show 84 + 2 * j + 1 ≤ 601024; omega) (by show 68892 + 12 * j + 6 ≤ 7293034; omega) rfl (Nat.le_of_ble_eq_true rfl) (fun r I1 J1 q1 => ?_)
          obtain ⟨P2, hM2, hK2⟩ := hK1 r I1 J1 q1
          refine pw_istore dL_law_124 (Nat.le_of_ble_eq_true rfl) ?_
          refine pw_aload_n dL_law_126 rfl ?_
          refine pw_aload_n dL_law_127 rfl ?_
          refine pw_iload dL_law_128 rfl ?_
          refine pw_iconst (v := 1) dL_law_130 (by decide) ?_
          refine pw_iadd dL_law_131 ?_
          refine pw_xld (j := 6 * j + 1) dL_law_132 rfl (by rw [show (1 : Int32) = nI 1 by decide, nI_add]) (by omega) hL ?_
          refine pw_aload_n dL_law_133 rfl ?_
          refine pw_iload dL_law_134 rfl ?_
          refine pw_iconst (v := 2) dL_law_136 (by decide) ?_
          refine pw_iadd dL_law_137 ?_
          refine pw_xld (j := 6 * j + 2) dL_law_138 rfl (by rw [show (2 : Int32) = nI 2 by decide, nI_add]) (by omega) hL ?_
          refine pw_cVv (ci := 6) (y := yX6_exhibit) (cc := cX6_exhibit) (nL := 4) (ret := none) (rm := { frames := 4, cells := 0, slots := 0, locals := 86 }) dL_law_139 hM2 w_L_62 rfl (by decide) rfl ⟨(Nat.le_of_ble_eq_true rfl), (Nat.le_of_ble_eq_true rfl)⟩ (by show 84 + 2 * j + 1 + 0 ≤ 601024; omega) (by show 68892 + 12 * j + 6 + 0 ≤ 7293034; omega) rfl (Nat.le_of_ble_eq_true rfl) (fun I2 J2 q2 => ?_)
          obtain ⟨hth, c2, hLI2⟩ := hK2 I2 J2 q2
          refine pw_aload_n dL_law_142 rfl ?_
          refine pw_cVi (ci := 6) (y := yX6_thrown) (cc := cX6_thrown) (nL := 1) (ret := (some .int)) (rm := { frames := 0, cells := 0, slots := 0, locals := 0 }) dL_law_143 (r_thrown _ _) w_L_63 rfl (by decide) rfl ⟨(Nat.le_of_ble_eq_true rfl), (Nat.le_of_ble_eq_true rfl)⟩ (by show 84 + 2 * j + 1 + 0 + 0 ≤ 601024; omega) (by show 68892 + 12 * j + 6 + 0 + 0 ≤ 7293034; omega) rfl (Nat.le_of_ble_eq_true rfl) (fun x3 I3 J3 q3 => ?_)
          obtain ⟨rfl, rfl, rfl⟩ := rvq q3
          refine pw_iload dL_law_146 rfl ?_
          refine pw_icmp_eq (tgt := 153) dL_law_148 (by decide) (fun _ => ?_) (fun z => absurd hth z)
          refine pw_goto (tgt := 764) dL_law_153 (by decide) ?_
          refine pw_iinc (v := nI (6 * (j + 1))) dL_law_764 rfl (by rw [show Int32.ofInt 6 = nI 6 by decide, nI_add]; rfl) (Nat.le_of_ble_eq_true rfl) ?_
          refine pw_goto (tgt := 23) dL_law_767 (by decide) ?_
          refine pw_loc (L' := [(0, .ref 1006), (1, .ref 0), (2, .ref 64), (3, .ref 83), (4, .int (nI (6 * (j + 1))))]) rfl ?_
          refine pw_widen (k' := 84 + 2 * (j + 1)) (n' := 68892 + 12 * (j + 1)) (by first | (show 84 + 2 * j + 2 + 0 + 0 ≤ 84 + 2 * (j + 1); omega) | (show 84 + 2 * j + 1 + 0 + 0 ≤ 84 + 2 * (j + 1); omega) | (show 84 + 2 * j + 0 + 0 ≤ 84 + 2 * (j + 1); omega) | (show 84 + 2 * j + 0 ≤ 84 + 2 * (j + 1); omega)) (by first | (show 68892 + 12 * j + 12 + 0 + 0 ≤ 68892 + 12 * (j + 1); omega) | (show 68892 + 12 * j + 6 + 0 + 0 ≤ 68892 + 12 * (j + 1); omega) | (show 68892 + 12 * j + 0 + 0 ≤ 68892 + 12 * (j + 1); omega) | (show 68892 + 12 * j + 0 ≤ 68892 + 12 * (j + 1); omega)) ?_
          exact ih (j + 1) _ _ _ (by omega) (by omega) (by first | exact hLI2 | exact hLI)
        · replace s40 := s40.trans (show _ = (1 : Int32) by decide)
          refine ⟨_, 156, rfl, by decide, ?_⟩
          obtain ⟨P1, hM1, hK1⟩ := k_change J (xs (6 * j + 1)) (xs (6 * j + 2)) (xs (6 * j + 3)) (xs (6 * j + 4)) (xs (6 * j + 5)) hLI
          refine pw_aload_n dL_law_156 rfl ?_
          refine pw_aload_n dL_law_157 rfl ?_
          refine pw_iload dL_law_158 rfl ?_
          refine pw_iconst (v := 1) dL_law_160 (by decide) ?_
          refine pw_iadd dL_law_161 ?_
          refine pw_xld (j := 6 * j + 1) dL_law_162 rfl (by rw [show (1 : Int32) = nI 1 by decide, nI_add]) (by omega) hL ?_
          refine pw_aload_n dL_law_163 rfl ?_
          refine pw_iload dL_law_164 rfl ?_
          refine pw_iconst (v := 2) dL_law_166 (by decide) ?_
          refine pw_iadd dL_law_167 ?_
          refine pw_xld (j := 6 * j + 2) dL_law_168 rfl (by rw [show (2 : Int32) = nI 2 by decide, nI_add]) (by omega) hL ?_
          refine pw_aload_n dL_law_169 rfl ?_
          refine pw_iload dL_law_170 rfl ?_
          refine pw_iconst (v := 3) dL_law_172 (by decide) ?_
          refine pw_iadd dL_law_173 ?_
          refine pw_xld (j := 6 * j + 3) dL_law_174 rfl (by rw [show (3 : Int32) = nI 3 by decide, nI_add]) (by omega) hL ?_
          refine pw_aload_n dL_law_175 rfl ?_
          refine pw_iload dL_law_176 rfl ?_
          refine pw_iconst (v := 4) dL_law_178 (by decide) ?_
          refine pw_iadd dL_law_179 ?_
          refine pw_xld (j := 6 * j + 4) dL_law_180 rfl (by rw [show (4 : Int32) = nI 4 by decide, nI_add]) (by omega) hL ?_
          refine pw_aload_n dL_law_181 rfl ?_
          refine pw_iload dL_law_182 rfl ?_
          refine pw_iconst (v := 5) dL_law_184 (by decide) ?_
          refine pw_iadd dL_law_185 ?_
          refine pw_xld (j := 6 * j + 5) dL_law_186 rfl (by rw [show (5 : Int32) = nI 5 by decide, nI_add]) (by omega) hL ?_
          refine pw_cSW (y := yL_change) (cc := cL_change) (nL := 7) (ret := (some .int)) (rm := { frames := 7, cells := 1, slots := 6, locals := 115 }) dL_law_187 hM1 ww_67 rfl ⟨(Nat.le_of_ble_eq_true rfl), (Nat.le_of_ble_eq_true rfl)⟩ (by show 84 + 2 * j + 1 ≤ 601024; omega) (by show 68892 + 12 * j + 6 ≤ 7293034; omega) rfl (Nat.le_of_ble_eq_true rfl) (fun r I1 J1 q1 => ?_)
          obtain ⟨P2, hM2, hK2⟩ := hK1 r I1 J1 q1
          refine pw_istore dL_law_190 (Nat.le_of_ble_eq_true rfl) ?_
          refine pw_aload_n dL_law_192 rfl ?_
          refine pw_aload_n dL_law_193 rfl ?_
          refine pw_iload dL_law_194 rfl ?_
          refine pw_iconst (v := 1) dL_law_196 (by decide) ?_
          refine pw_iadd dL_law_197 ?_
          refine pw_xld (j := 6 * j + 1) dL_law_198 rfl (by rw [show (1 : Int32) = nI 1 by decide, nI_add]) (by omega) hL ?_
          refine pw_aload_n dL_law_199 rfl ?_
          refine pw_iload dL_law_200 rfl ?_
          refine pw_iconst (v := 2) dL_law_202 (by decide) ?_
          refine pw_iadd dL_law_203 ?_
          refine pw_xld (j := 6 * j + 2) dL_law_204 rfl (by rw [show (2 : Int32) = nI 2 by decide, nI_add]) (by omega) hL ?_
          refine pw_aload_n dL_law_205 rfl ?_
          refine pw_iload dL_law_206 rfl ?_
          refine pw_iconst (v := 3) dL_law_208 (by decide) ?_
          refine pw_iadd dL_law_209 ?_
          refine pw_xld (j := 6 * j + 3) dL_law_210 rfl (by rw [show (3 : Int32) = nI 3 by decide, nI_add]) (by omega) hL ?_
          refine pw_aload_n dL_law_211 rfl ?_
          refine pw_iload dL_law_212 rfl ?_
          refine pw_iconst (v := 4) dL_law_214 (by decide) ?_
          refine pw_iadd dL_law_215 ?_
          refine pw_xld (j := 6 * j + 4) dL_law_216 rfl (by rw [show (4 : Int32) = nI 4 by decide, nI_add]) (by omega) hL ?_
          refine pw_aload_n dL_law_217 rfl ?_
          refine pw_iload dL_law_218 rfl ?_
          refine pw_iconst (v := 5) dL_law_220 (by decide) ?_
          refine pw_iadd dL_law_221 ?_
          refine pw_xld (j := 6 * j + 5) dL_law_222 rfl (by rw [show (5 : Int32) = nI 5 by decide, nI_add]) (by omega) hL ?_
          refine pw_cVv (ci := 6) (y := yX6_change) (cc := cX6_change) (nL := 6) (ret := none) (rm := { frames := 3, cells := 0, slots := 0, locals := 65 }) dL_law_223 hM2 w_L_70 rfl (by decide) rfl ⟨(Nat.le_of_ble_eq_true rfl), (Nat.le_of_ble_eq_true rfl)⟩ (by show 84 + 2 * j + 1 + 0 ≤ 601024; omega) (by show 68892 + 12 * j + 6 + 0 ≤ 7293034; omega) rfl (Nat.le_of_ble_eq_true rfl) (fun I2 J2 q2 => ?_)
          obtain ⟨hth, c2, hLI2⟩ := hK2 I2 J2 q2
          refine pw_aload_n dL_law_226 rfl ?_
          refine pw_cVi (ci := 6) (y := yX6_thrown) (cc := cX6_thrown) (nL := 1) (ret := (some .int)) (rm := { frames := 0, cells := 0, slots := 0, locals := 0 }) dL_law_227 (r_thrown _ _) w_L_63 rfl (by decide) rfl ⟨(Nat.le_of_ble_eq_true rfl), (Nat.le_of_ble_eq_true rfl)⟩ (by show 84 + 2 * j + 1 + 0 + 0 ≤ 601024; omega) (by show 68892 + 12 * j + 6 + 0 + 0 ≤ 7293034; omega) rfl (Nat.le_of_ble_eq_true rfl) (fun x3 I3 J3 q3 => ?_)
          obtain ⟨rfl, rfl, rfl⟩ := rvq q3
          refine pw_iload dL_law_230 rfl ?_
          refine pw_icmp_eq (tgt := 237) dL_law_232 (by decide) (fun _ => ?_) (fun z => absurd hth z)
          refine pw_goto (tgt := 764) dL_law_237 (by decide) ?_
          refine pw_iinc (v := nI (6 * (j + 1))) dL_law_764 rfl (by rw [show Int32.ofInt 6 = nI 6 by decide, nI_add]; rfl) (Nat.le_of_ble_eq_true rfl) ?_
          refine pw_goto (tgt := 23) dL_law_767 (by decide) ?_
          refine pw_loc (L' := [(0, .ref 1006), (1, .ref 0), (2, .ref 64), (3, .ref 83), (4, .int (nI (6 * (j + 1))))]) rfl ?_
          refine pw_widen (k' := 84 + 2 * (j + 1)) (n' := 68892 + 12 * (j + 1)) (by first | (show 84 + 2 * j + 2 + 0 + 0 ≤ 84 + 2 * (j + 1); omega) | (show 84 + 2 * j + 1 + 0 + 0 ≤ 84 + 2 * (j + 1); omega) | (show 84 + 2 * j + 0 + 0 ≤ 84 + 2 * (j + 1); omega) | (show 84 + 2 * j + 0 ≤ 84 + 2 * (j + 1); omega)) (by first | (show 68892 + 12 * j + 12 + 0 + 0 ≤ 68892 + 12 * (j + 1); omega) | (show 68892 + 12 * j + 6 + 0 + 0 ≤ 68892 + 12 * (j + 1); omega) | (show 68892 + 12 * j + 0 + 0 ≤ 68892 + 12 * (j + 1); omega) | (show 68892 + 12 * j + 0 ≤ 68892 + 12 * (j + 1); omega)) ?_
          exact ih (j + 1) _ _ _ (by omega) (by omega) (by first | exact hLI2 | exact hLI)
        · replace s40 := s40.trans (show _ = (2 : Int32) by decide)
          refine ⟨_, 240, rfl, by decide, ?_⟩
          refine pw_aload_n dL_law_240 rfl ?_
          refine pw_cVv (ci := 5) (y := yX5_mend) (cc := cX5_mend) (nL := 1) (ret := none) (rm := { frames := 2, cells := 0, slots := 0, locals := 47 }) dL_law_241 (c_mend I J) w_L_71 rfl (by decide) rfl ⟨(Nat.le_of_ble_eq_true rfl), (Nat.le_of_ble_eq_true rfl)⟩ (by show 84 + 2 * j + 0 ≤ 601024; omega) (by show 68892 + 12 * j + 0 ≤ 7293034; omega) rfl (Nat.le_of_ble_eq_true rfl) (fun I1 J1 q1 => ?_)
          obtain ⟨rfl, rfl⟩ := rvv q1
          refine pw_aload_n dL_law_244 rfl ?_
          refine pw_cVv (ci := 6) (y := yX6_mend) (cc := cX6_mend) (nL := 2) (ret := none) (rm := { frames := 3, cells := 0, slots := 0, locals := 65 }) dL_law_245 (r_mend _ _) w_L_74 rfl (by decide) rfl ⟨(Nat.le_of_ble_eq_true rfl), (Nat.le_of_ble_eq_true rfl)⟩ (by show 84 + 2 * j + 0 + 0 ≤ 601024; omega) (by show 68892 + 12 * j + 0 + 0 ≤ 7293034; omega) rfl (Nat.le_of_ble_eq_true rfl) (fun I2 J2 q2 => ?_)
          obtain ⟨rfl, rfl⟩ := rvv q2
          have hLI2 := hLI.mend
          refine pw_goto (tgt := 764) dL_law_248 (by decide) ?_
          refine pw_iinc (v := nI (6 * (j + 1))) dL_law_764 rfl (by rw [show Int32.ofInt 6 = nI 6 by decide, nI_add]; rfl) (Nat.le_of_ble_eq_true rfl) ?_
          refine pw_goto (tgt := 23) dL_law_767 (by decide) ?_
          refine pw_loc (L' := [(0, .ref 1006), (1, .ref 0), (2, .ref 64), (3, .ref 83), (4, .int (nI (6 * (j + 1))))]) rfl ?_
          refine pw_widen (k' := 84 + 2 * (j + 1)) (n' := 68892 + 12 * (j + 1)) (by first | (show 84 + 2 * j + 2 + 0 + 0 ≤ 84 + 2 * (j + 1); omega) | (show 84 + 2 * j + 1 + 0 + 0 ≤ 84 + 2 * (j + 1); omega) | (show 84 + 2 * j + 0 + 0 ≤ 84 + 2 * (j + 1); omega) | (show 84 + 2 * j + 0 ≤ 84 + 2 * (j + 1); omega)) (by first | (show 68892 + 12 * j + 12 + 0 + 0 ≤ 68892 + 12 * (j + 1); omega) | (show 68892 + 12 * j + 6 + 0 + 0 ≤ 68892 + 12 * (j + 1); omega) | (show 68892 + 12 * j + 0 + 0 ≤ 68892 + 12 * (j + 1); omega) | (show 68892 + 12 * j + 0 ≤ 68892 + 12 * (j + 1); omega)) ?_
          exact ih (j + 1) _ _ _ (by omega) (by omega) (by first | exact hLI2 | exact hLI)
        · replace s40 := s40.trans (show _ = (3 : Int32) by decide)
          refine ⟨_, 251, rfl, by decide, ?_⟩
          obtain ⟨P1, hM1, hK1⟩ := k_want J (xs (6 * j + 1)) hLI
          refine pw_aload_n dL_law_251 rfl ?_
          refine pw_aload_n dL_law_252 rfl ?_
          refine pw_iload dL_law_253 rfl ?_
          refine pw_iconst (v := 1) dL_law_255 (by decide) ?_
          refine pw_iadd dL_law_256 ?_
          refine pw_xld (j := 6 * j + 1) dL_law_257 rfl (by rw [show (1 : Int32) = nI 1 by decide, nI_add]) (by omega) hL ?_
          refine pw_cSW (y := yL_want) (cc := cL_want) (nL := 3) (ret := (some .int)) (rm := { frames := 8, cells := 2, slots := 12, locals := 133 }) dL_law_258 hM1 ww_75 rfl ⟨(Nat.le_of_ble_eq_true rfl), (Nat.le_of_ble_eq_true rfl)⟩ (by show 84 + 2 * j + 2 ≤ 601024; omega) (by show 68892 + 12 * j + 12 ≤ 7293034; omega) rfl (Nat.le_of_ble_eq_true rfl) (fun r I1 J1 q1 => ?_)
          obtain ⟨P2, hM2, hK2⟩ := hK1 r I1 J1 q1
          refine pw_istore dL_law_261 (Nat.le_of_ble_eq_true rfl) ?_
          refine pw_aload_n dL_law_263 rfl ?_
          refine pw_aload_n dL_law_264 rfl ?_
          refine pw_iload dL_law_265 rfl ?_
          refine pw_iconst (v := 1) dL_law_267 (by decide) ?_
          refine pw_iadd dL_law_268 ?_
          refine pw_xld (j := 6 * j + 1) dL_law_269 rfl (by rw [show (1 : Int32) = nI 1 by decide, nI_add]) (by omega) hL ?_
          refine pw_cVv (ci := 6) (y := yX6_want) (cc := cX6_want) (nL := 3) (ret := none) (rm := { frames := 2, cells := 0, slots := 0, locals := 44 }) dL_law_270 hM2 w_L_78 rfl (by decide) rfl ⟨(Nat.le_of_ble_eq_true rfl), (Nat.le_of_ble_eq_true rfl)⟩ (by show 84 + 2 * j + 2 + 0 ≤ 601024; omega) (by show 68892 + 12 * j + 12 + 0 ≤ 7293034; omega) rfl (Nat.le_of_ble_eq_true rfl) (fun I2 J2 q2 => ?_)
          obtain ⟨hth, c2, hLI2⟩ := hK2 I2 J2 q2
          refine pw_aload_n dL_law_273 rfl ?_
          refine pw_cVi (ci := 6) (y := yX6_thrown) (cc := cX6_thrown) (nL := 1) (ret := (some .int)) (rm := { frames := 0, cells := 0, slots := 0, locals := 0 }) dL_law_274 (r_thrown _ _) w_L_63 rfl (by decide) rfl ⟨(Nat.le_of_ble_eq_true rfl), (Nat.le_of_ble_eq_true rfl)⟩ (by show 84 + 2 * j + 2 + 0 + 0 ≤ 601024; omega) (by show 68892 + 12 * j + 12 + 0 + 0 ≤ 7293034; omega) rfl (Nat.le_of_ble_eq_true rfl) (fun x3 I3 J3 q3 => ?_)
          obtain ⟨rfl, rfl, rfl⟩ := rvq q3
          refine pw_iload dL_law_277 rfl ?_
          refine pw_icmp_eq (tgt := 284) dL_law_279 (by decide) (fun _ => ?_) (fun z => absurd hth z)
          refine pw_goto (tgt := 764) dL_law_284 (by decide) ?_
          refine pw_iinc (v := nI (6 * (j + 1))) dL_law_764 rfl (by rw [show Int32.ofInt 6 = nI 6 by decide, nI_add]; rfl) (Nat.le_of_ble_eq_true rfl) ?_
          refine pw_goto (tgt := 23) dL_law_767 (by decide) ?_
          refine pw_loc (L' := [(0, .ref 1006), (1, .ref 0), (2, .ref 64), (3, .ref 83), (4, .int (nI (6 * (j + 1))))]) rfl ?_
          refine pw_widen (k' := 84 + 2 * (j + 1)) (n' := 68892 + 12 * (j + 1)) (by first | (show 84 + 2 * j + 2 + 0 + 0 ≤ 84 + 2 * (j + 1); omega) | (show 84 + 2 * j + 1 + 0 + 0 ≤ 84 + 2 * (j + 1); omega) | (show 84 + 2 * j + 0 + 0 ≤ 84 + 2 * (j + 1); omega) | (show 84 + 2 * j + 0 ≤ 84 + 2 * (j + 1); omega)) (by first | (show 68892 + 12 * j + 12 + 0 + 0 ≤ 68892 + 12 * (j + 1); omega) | (show 68892 + 12 * j + 6 + 0 + 0 ≤ 68892 + 12 * (j + 1); omega) | (show 68892 + 12 * j + 0 + 0 ≤ 68892 + 12 * (j + 1); omega) | (show 68892 + 12 * j + 0 ≤ 68892 + 12 * (j + 1); omega)) ?_
          exact ih (j + 1) _ _ _ (by omega) (by omega) (by first | exact hLI2 | exact hLI)
        · replace s40 := s40.trans (show _ = (4 : Int32) by decide)
          refine ⟨_, 287, rfl, by decide, ?_⟩
          obtain ⟨P1, hM1, hK1⟩ := k_step J (xs (6 * j + 1)) hLI
          refine pw_aload_n dL_law_287 rfl ?_
          refine pw_aload_n dL_law_288 rfl ?_
          refine pw_iload dL_law_289 rfl ?_
          refine pw_iconst (v := 1) dL_law_291 (by decide) ?_
          refine pw_iadd dL_law_292 ?_
          refine pw_xld (j := 6 * j + 1) dL_law_293 rfl (by rw [show (1 : Int32) = nI 1 by decide, nI_add]) (by omega) hL ?_
          refine pw_aload_n dL_law_294 rfl ?_
          refine pw_cSW (y := yL_step) (cc := cL_step) (nL := 4) (ret := (some .int)) (rm := { frames := 8, cells := 2, slots := 12, locals := 133 }) dL_law_295 hM1 ww_79 rfl ⟨(Nat.le_of_ble_eq_true rfl), (Nat.le_of_ble_eq_true rfl)⟩ (by show 84 + 2 * j + 2 ≤ 601024; omega) (by show 68892 + 12 * j + 12 ≤ 7293034; omega) rfl (Nat.le_of_ble_eq_true rfl) (fun r I1 J1 q1 => ?_)
          obtain ⟨P2, hM2, hK2⟩ := hK1 r I1 J1 q1
          refine pw_istore dL_law_298 (Nat.le_of_ble_eq_true rfl) ?_
          refine pw_aload_n dL_law_300 rfl ?_
          refine pw_aload_n dL_law_301 rfl ?_
          refine pw_iload dL_law_302 rfl ?_
          refine pw_iconst (v := 1) dL_law_304 (by decide) ?_
          refine pw_iadd dL_law_305 ?_
          refine pw_xld (j := 6 * j + 1) dL_law_306 rfl (by rw [show (1 : Int32) = nI 1 by decide, nI_add]) (by omega) hL ?_
          refine pw_cVi (ci := 6) (y := yX6_step) (cc := cX6_step) (nL := 3) (ret := (some .int)) (rm := { frames := 2, cells := 0, slots := 0, locals := 54 }) dL_law_307 hM2 w_L_82 rfl (by decide) rfl ⟨(Nat.le_of_ble_eq_true rfl), (Nat.le_of_ble_eq_true rfl)⟩ (by show 84 + 2 * j + 2 + 0 ≤ 601024; omega) (by show 68892 + 12 * j + 12 + 0 ≤ 7293034; omega) rfl (Nat.le_of_ble_eq_true rfl) (fun b9 I2 J2 q2 => ?_)
          obtain ⟨hth, hout, c2, hLI2⟩ := hK2 b9 I2 J2 q2
          refine pw_istore dL_law_310 (Nat.le_of_ble_eq_true rfl) ?_
          refine pw_aload_n dL_law_312 rfl ?_
          refine pw_cVi (ci := 6) (y := yX6_thrown) (cc := cX6_thrown) (nL := 1) (ret := (some .int)) (rm := { frames := 0, cells := 0, slots := 0, locals := 0 }) dL_law_313 (r_thrown _ _) w_L_63 rfl (by decide) rfl ⟨(Nat.le_of_ble_eq_true rfl), (Nat.le_of_ble_eq_true rfl)⟩ (by show 84 + 2 * j + 2 + 0 + 0 ≤ 601024; omega) (by show 68892 + 12 * j + 12 + 0 + 0 ≤ 7293034; omega) rfl (Nat.le_of_ble_eq_true rfl) (fun x3 I3 J3 q3 => ?_)
          obtain ⟨rfl, rfl, rfl⟩ := rvq q3
          refine pw_iload dL_law_316 rfl ?_
          refine pw_icmp_eq (tgt := 323) dL_law_318 (by decide) (fun _ => ?_) (fun z => absurd hth z)
          refine pw_iload dL_law_323 rfl ?_
          refine pw_if_ne (tgt := 340) dL_law_325 (by decide) (fun h325 => ?_) (fun h325 => ?_)
          · refine pw_goto (tgt := 764) dL_law_340 (by decide) ?_
            refine pw_iinc (v := nI (6 * (j + 1))) dL_law_764 rfl (by rw [show Int32.ofInt 6 = nI 6 by decide, nI_add]; rfl) (Nat.le_of_ble_eq_true rfl) ?_
            refine pw_goto (tgt := 23) dL_law_767 (by decide) ?_
            refine pw_loc (L' := [(0, .ref 1006), (1, .ref 0), (2, .ref 64), (3, .ref 83), (4, .int (nI (6 * (j + 1))))]) rfl ?_
            refine pw_widen (k' := 84 + 2 * (j + 1)) (n' := 68892 + 12 * (j + 1)) (by first | (show 84 + 2 * j + 2 + 0 + 0 ≤ 84 + 2 * (j + 1); omega) | (show 84 + 2 * j + 1 + 0 + 0 ≤ 84 + 2 * (j + 1); omega) | (show 84 + 2 * j + 0 + 0 ≤ 84 + 2 * (j + 1); omega) | (show 84 + 2 * j + 0 ≤ 84 + 2 * (j + 1); omega)) (by first | (show 68892 + 12 * j + 12 + 0 + 0 ≤ 68892 + 12 * (j + 1); omega) | (show 68892 + 12 * j + 6 + 0 + 0 ≤ 68892 + 12 * (j + 1); omega) | (show 68892 + 12 * j + 0 + 0 ≤ 68892 + 12 * (j + 1); omega) | (show 68892 + 12 * j + 0 ≤ 68892 + 12 * (j + 1); omega)) ?_
            exact ih (j + 1) _ _ _ (by omega) (by omega) (by first | exact hLI2 | exact hLI)
          · refine pw_aload_n dL_law_328 rfl ?_
            refine pw_iconst (v := 0) dL_law_329 (by decide) ?_
            refine pw_lald dL_law_330 rfl (by decide) (by decide) (vp_in_nI (n := 0) (N := 1) (by decide) (by decide)) ?_
            refine pw_iload dL_law_331 rfl ?_
            refine pw_i2l dL_law_333 ?_
            refine pw_lcmp dL_law_334 ?_
            refine pw_if_eq (tgt := 340) dL_law_335 (by decide) (fun _ => ?_) (fun z => absurd ((lg_cmp_eq _ _).mpr (hout h325)) z)
            refine pw_goto (tgt := 764) dL_law_340 (by decide) ?_
            refine pw_iinc (v := nI (6 * (j + 1))) dL_law_764 rfl (by rw [show Int32.ofInt 6 = nI 6 by decide, nI_add]; rfl) (Nat.le_of_ble_eq_true rfl) ?_
            refine pw_goto (tgt := 23) dL_law_767 (by decide) ?_
            refine pw_loc (L' := [(0, .ref 1006), (1, .ref 0), (2, .ref 64), (3, .ref 83), (4, .int (nI (6 * (j + 1))))]) rfl ?_
            refine pw_widen (k' := 84 + 2 * (j + 1)) (n' := 68892 + 12 * (j + 1)) (by first | (show 84 + 2 * j + 2 + 0 + 0 ≤ 84 + 2 * (j + 1); omega) | (show 84 + 2 * j + 1 + 0 + 0 ≤ 84 + 2 * (j + 1); omega) | (show 84 + 2 * j + 0 + 0 ≤ 84 + 2 * (j + 1); omega) | (show 84 + 2 * j + 0 ≤ 84 + 2 * (j + 1); omega)) (by first | (show 68892 + 12 * j + 12 + 0 + 0 ≤ 68892 + 12 * (j + 1); omega) | (show 68892 + 12 * j + 6 + 0 + 0 ≤ 68892 + 12 * (j + 1); omega) | (show 68892 + 12 * j + 0 + 0 ≤ 68892 + 12 * (j + 1); omega) | (show 68892 + 12 * j + 0 ≤ 68892 + 12 * (j + 1); omega)) ?_
            exact ih (j + 1) _ _ _ (by omega) (by omega) (by first | exact hLI2 | exact hLI)
        · replace s40 := s40.trans (show _ = (5 : Int32) by decide)
          refine ⟨_, 343, rfl, by decide, ?_⟩
          obtain ⟨P1, hM1, hK1⟩ := k_leave J (xs (6 * j + 1)) hLI
          refine pw_aload_n dL_law_343 rfl ?_
          refine pw_aload_n dL_law_344 rfl ?_
          refine pw_iload dL_law_345 rfl ?_
          refine pw_iconst (v := 1) dL_law_347 (by decide) ?_
          refine pw_iadd dL_law_348 ?_
          refine pw_xld (j := 6 * j + 1) dL_law_349 rfl (by rw [show (1 : Int32) = nI 1 by decide, nI_add]) (by omega) hL ?_
          refine pw_cSW (y := yL_leave) (cc := cL_leave) (nL := 3) (ret := (some .int)) (rm := { frames := 8, cells := 2, slots := 12, locals := 133 }) dL_law_350 hM1 ww_83 rfl ⟨(Nat.le_of_ble_eq_true rfl), (Nat.le_of_ble_eq_true rfl)⟩ (by show 84 + 2 * j + 2 ≤ 601024; omega) (by show 68892 + 12 * j + 12 ≤ 7293034; omega) rfl (Nat.le_of_ble_eq_true rfl) (fun r I1 J1 q1 => ?_)
          obtain ⟨P2, hM2, hK2⟩ := hK1 r I1 J1 q1
          refine pw_istore dL_law_353 (Nat.le_of_ble_eq_true rfl) ?_
          refine pw_aload_n dL_law_355 rfl ?_
          refine pw_aload_n dL_law_356 rfl ?_
          refine pw_iload dL_law_357 rfl ?_
          refine pw_iconst (v := 1) dL_law_359 (by decide) ?_
          refine pw_iadd dL_law_360 ?_
          refine pw_xld (j := 6 * j + 1) dL_law_361 rfl (by rw [show (1 : Int32) = nI 1 by decide, nI_add]) (by omega) hL ?_
          refine pw_cVv (ci := 6) (y := yX6_leave) (cc := cX6_leave) (nL := 3) (ret := none) (rm := { frames := 2, cells := 0, slots := 0, locals := 43 }) dL_law_362 hM2 w_L_85 rfl (by decide) rfl ⟨(Nat.le_of_ble_eq_true rfl), (Nat.le_of_ble_eq_true rfl)⟩ (by show 84 + 2 * j + 2 + 0 ≤ 601024; omega) (by show 68892 + 12 * j + 12 + 0 ≤ 7293034; omega) rfl (Nat.le_of_ble_eq_true rfl) (fun I2 J2 q2 => ?_)
          obtain ⟨hth, c2, hLI2⟩ := hK2 I2 J2 q2
          refine pw_aload_n dL_law_365 rfl ?_
          refine pw_cVi (ci := 6) (y := yX6_thrown) (cc := cX6_thrown) (nL := 1) (ret := (some .int)) (rm := { frames := 0, cells := 0, slots := 0, locals := 0 }) dL_law_366 (r_thrown _ _) w_L_63 rfl (by decide) rfl ⟨(Nat.le_of_ble_eq_true rfl), (Nat.le_of_ble_eq_true rfl)⟩ (by show 84 + 2 * j + 2 + 0 + 0 ≤ 601024; omega) (by show 68892 + 12 * j + 12 + 0 + 0 ≤ 7293034; omega) rfl (Nat.le_of_ble_eq_true rfl) (fun x3 I3 J3 q3 => ?_)
          obtain ⟨rfl, rfl, rfl⟩ := rvq q3
          refine pw_iload dL_law_369 rfl ?_
          refine pw_icmp_eq (tgt := 376) dL_law_371 (by decide) (fun _ => ?_) (fun z => absurd hth z)
          refine pw_goto (tgt := 764) dL_law_376 (by decide) ?_
          refine pw_iinc (v := nI (6 * (j + 1))) dL_law_764 rfl (by rw [show Int32.ofInt 6 = nI 6 by decide, nI_add]; rfl) (Nat.le_of_ble_eq_true rfl) ?_
          refine pw_goto (tgt := 23) dL_law_767 (by decide) ?_
          refine pw_loc (L' := [(0, .ref 1006), (1, .ref 0), (2, .ref 64), (3, .ref 83), (4, .int (nI (6 * (j + 1))))]) rfl ?_
          refine pw_widen (k' := 84 + 2 * (j + 1)) (n' := 68892 + 12 * (j + 1)) (by first | (show 84 + 2 * j + 2 + 0 + 0 ≤ 84 + 2 * (j + 1); omega) | (show 84 + 2 * j + 1 + 0 + 0 ≤ 84 + 2 * (j + 1); omega) | (show 84 + 2 * j + 0 + 0 ≤ 84 + 2 * (j + 1); omega) | (show 84 + 2 * j + 0 ≤ 84 + 2 * (j + 1); omega)) (by first | (show 68892 + 12 * j + 12 + 0 + 0 ≤ 68892 + 12 * (j + 1); omega) | (show 68892 + 12 * j + 6 + 0 + 0 ≤ 68892 + 12 * (j + 1); omega) | (show 68892 + 12 * j + 0 + 0 ≤ 68892 + 12 * (j + 1); omega) | (show 68892 + 12 * j + 0 ≤ 68892 + 12 * (j + 1); omega)) ?_
          exact ih (j + 1) _ _ _ (by omega) (by omega) (by first | exact hLI2 | exact hLI)
        · replace s40 := s40.trans (show _ = (6 : Int32) by decide)
          refine ⟨_, 379, rfl, by decide, ?_⟩
          obtain ⟨P1, hM1, hK1⟩ := k_word J (xs (6 * j + 1)) hLI
          refine pw_aload_n dL_law_379 rfl ?_
          refine pw_aload_n dL_law_380 rfl ?_
          refine pw_iload dL_law_381 rfl ?_
          refine pw_iconst (v := 1) dL_law_383 (by decide) ?_
          refine pw_iadd dL_law_384 ?_
          refine pw_xld (j := 6 * j + 1) dL_law_385 rfl (by rw [show (1 : Int32) = nI 1 by decide, nI_add]) (by omega) hL ?_
          refine pw_aload_n dL_law_386 rfl ?_
          refine pw_cSW (y := yL_word) (cc := cL_word) (nL := 4) (ret := (some .int)) (rm := { frames := 7, cells := 1, slots := 6, locals := 111 }) dL_law_387 hM1 ww_86 rfl ⟨(Nat.le_of_ble_eq_true rfl), (Nat.le_of_ble_eq_true rfl)⟩ (by show 84 + 2 * j + 1 ≤ 601024; omega) (by show 68892 + 12 * j + 6 ≤ 7293034; omega) rfl (Nat.le_of_ble_eq_true rfl) (fun r I1 J1 q1 => ?_)
          obtain ⟨P2, hM2, hK2⟩ := hK1 r I1 J1 q1
          refine pw_istore dL_law_390 (Nat.le_of_ble_eq_true rfl) ?_
          refine pw_aload_n dL_law_392 rfl ?_
          refine pw_aload_n dL_law_393 rfl ?_
          refine pw_iload dL_law_394 rfl ?_
          refine pw_iconst (v := 1) dL_law_396 (by decide) ?_
          refine pw_iadd dL_law_397 ?_
          refine pw_xld (j := 6 * j + 1) dL_law_398 rfl (by rw [show (1 : Int32) = nI 1 by decide, nI_add]) (by omega) hL ?_
          refine pw_cVi (ci := 6) (y := yX6_word) (cc := cX6_word) (nL := 2) (ret := (some .int)) (rm := { frames := 1, cells := 0, slots := 0, locals := 22 }) dL_law_399 hM2 w_L_88 rfl (by decide) rfl ⟨(Nat.le_of_ble_eq_true rfl), (Nat.le_of_ble_eq_true rfl)⟩ (by show 84 + 2 * j + 1 + 0 ≤ 601024; omega) (by show 68892 + 12 * j + 6 + 0 ≤ 7293034; omega) rfl (Nat.le_of_ble_eq_true rfl) (fun b9 I2 J2 q2 => ?_)
          obtain ⟨hth, hout, c2, hLI2⟩ := hK2 b9 I2 J2 q2
          refine pw_istore dL_law_402 (Nat.le_of_ble_eq_true rfl) ?_
          refine pw_aload_n dL_law_404 rfl ?_
          refine pw_cVi (ci := 6) (y := yX6_thrown) (cc := cX6_thrown) (nL := 1) (ret := (some .int)) (rm := { frames := 0, cells := 0, slots := 0, locals := 0 }) dL_law_405 (r_thrown _ _) w_L_63 rfl (by decide) rfl ⟨(Nat.le_of_ble_eq_true rfl), (Nat.le_of_ble_eq_true rfl)⟩ (by show 84 + 2 * j + 1 + 0 + 0 ≤ 601024; omega) (by show 68892 + 12 * j + 6 + 0 + 0 ≤ 7293034; omega) rfl (Nat.le_of_ble_eq_true rfl) (fun x3 I3 J3 q3 => ?_)
          obtain ⟨rfl, rfl, rfl⟩ := rvq q3
          refine pw_iload dL_law_408 rfl ?_
          refine pw_icmp_eq (tgt := 415) dL_law_410 (by decide) (fun _ => ?_) (fun z => absurd hth z)
          refine pw_iload dL_law_415 rfl ?_
          refine pw_if_ne (tgt := 432) dL_law_417 (by decide) (fun h417 => ?_) (fun h417 => ?_)
          · refine pw_goto (tgt := 764) dL_law_432 (by decide) ?_
            refine pw_iinc (v := nI (6 * (j + 1))) dL_law_764 rfl (by rw [show Int32.ofInt 6 = nI 6 by decide, nI_add]; rfl) (Nat.le_of_ble_eq_true rfl) ?_
            refine pw_goto (tgt := 23) dL_law_767 (by decide) ?_
            refine pw_loc (L' := [(0, .ref 1006), (1, .ref 0), (2, .ref 64), (3, .ref 83), (4, .int (nI (6 * (j + 1))))]) rfl ?_
            refine pw_widen (k' := 84 + 2 * (j + 1)) (n' := 68892 + 12 * (j + 1)) (by first | (show 84 + 2 * j + 2 + 0 + 0 ≤ 84 + 2 * (j + 1); omega) | (show 84 + 2 * j + 1 + 0 + 0 ≤ 84 + 2 * (j + 1); omega) | (show 84 + 2 * j + 0 + 0 ≤ 84 + 2 * (j + 1); omega) | (show 84 + 2 * j + 0 ≤ 84 + 2 * (j + 1); omega)) (by first | (show 68892 + 12 * j + 12 + 0 + 0 ≤ 68892 + 12 * (j + 1); omega) | (show 68892 + 12 * j + 6 + 0 + 0 ≤ 68892 + 12 * (j + 1); omega) | (show 68892 + 12 * j + 0 + 0 ≤ 68892 + 12 * (j + 1); omega) | (show 68892 + 12 * j + 0 ≤ 68892 + 12 * (j + 1); omega)) ?_
            exact ih (j + 1) _ _ _ (by omega) (by omega) (by first | exact hLI2 | exact hLI)
          · refine pw_aload_n dL_law_420 rfl ?_
            refine pw_iconst (v := 0) dL_law_421 (by decide) ?_
            refine pw_lald dL_law_422 rfl (by decide) (by decide) (vp_in_nI (n := 0) (N := 1) (by decide) (by decide)) ?_
            refine pw_iload dL_law_423 rfl ?_
            refine pw_i2l dL_law_425 ?_
            refine pw_lcmp dL_law_426 ?_
            refine pw_if_eq (tgt := 432) dL_law_427 (by decide) (fun _ => ?_) (fun z => absurd ((lg_cmp_eq _ _).mpr (hout h417)) z)
            refine pw_goto (tgt := 764) dL_law_432 (by decide) ?_
            refine pw_iinc (v := nI (6 * (j + 1))) dL_law_764 rfl (by rw [show Int32.ofInt 6 = nI 6 by decide, nI_add]; rfl) (Nat.le_of_ble_eq_true rfl) ?_
            refine pw_goto (tgt := 23) dL_law_767 (by decide) ?_
            refine pw_loc (L' := [(0, .ref 1006), (1, .ref 0), (2, .ref 64), (3, .ref 83), (4, .int (nI (6 * (j + 1))))]) rfl ?_
            refine pw_widen (k' := 84 + 2 * (j + 1)) (n' := 68892 + 12 * (j + 1)) (by first | (show 84 + 2 * j + 2 + 0 + 0 ≤ 84 + 2 * (j + 1); omega) | (show 84 + 2 * j + 1 + 0 + 0 ≤ 84 + 2 * (j + 1); omega) | (show 84 + 2 * j + 0 + 0 ≤ 84 + 2 * (j + 1); omega) | (show 84 + 2 * j + 0 ≤ 84 + 2 * (j + 1); omega)) (by first | (show 68892 + 12 * j + 12 + 0 + 0 ≤ 68892 + 12 * (j + 1); omega) | (show 68892 + 12 * j + 6 + 0 + 0 ≤ 68892 + 12 * (j + 1); omega) | (show 68892 + 12 * j + 0 + 0 ≤ 68892 + 12 * (j + 1); omega) | (show 68892 + 12 * j + 0 ≤ 68892 + 12 * (j + 1); omega)) ?_
            exact ih (j + 1) _ _ _ (by omega) (by omega) (by first | exact hLI2 | exact hLI)
        · replace s40 := s40.trans (show _ = (7 : Int32) by decide)
          refine ⟨_, 435, rfl, by decide, ?_⟩
          obtain ⟨P1, hM1, hK1⟩ := k_register J (xs (6 * j + 1)) (xs (6 * j + 2)) hLI
          refine pw_aload_n dL_law_435 rfl ?_
          refine pw_aload_n dL_law_436 rfl ?_
          refine pw_iload dL_law_437 rfl ?_
          refine pw_iconst (v := 1) dL_law_439 (by decide) ?_
          refine pw_iadd dL_law_440 ?_
          refine pw_xld (j := 6 * j + 1) dL_law_441 rfl (by rw [show (1 : Int32) = nI 1 by decide, nI_add]) (by omega) hL ?_
          refine pw_aload_n dL_law_442 rfl ?_
          refine pw_iload dL_law_443 rfl ?_
          refine pw_iconst (v := 2) dL_law_445 (by decide) ?_
          refine pw_iadd dL_law_446 ?_
          refine pw_xld (j := 6 * j + 2) dL_law_447 rfl (by rw [show (2 : Int32) = nI 2 by decide, nI_add]) (by omega) hL ?_
          refine pw_aload_n dL_law_448 rfl ?_
          refine pw_cSW (y := yL_register) (cc := cL_register) (nL := 5) (ret := (some .int)) (rm := { frames := 8, cells := 2, slots := 12, locals := 134 }) dL_law_449 hM1 ww_89 rfl ⟨(Nat.le_of_ble_eq_true rfl), (Nat.le_of_ble_eq_true rfl)⟩ (by show 84 + 2 * j + 2 ≤ 601024; omega) (by show 68892 + 12 * j + 12 ≤ 7293034; omega) rfl (Nat.le_of_ble_eq_true rfl) (fun r I1 J1 q1 => ?_)
          obtain ⟨P2, hM2, hK2⟩ := hK1 r I1 J1 q1
          refine pw_istore dL_law_452 (Nat.le_of_ble_eq_true rfl) ?_
          refine pw_aload_n dL_law_454 rfl ?_
          refine pw_aload_n dL_law_455 rfl ?_
          refine pw_iload dL_law_456 rfl ?_
          refine pw_iconst (v := 1) dL_law_458 (by decide) ?_
          refine pw_iadd dL_law_459 ?_
          refine pw_xld (j := 6 * j + 1) dL_law_460 rfl (by rw [show (1 : Int32) = nI 1 by decide, nI_add]) (by omega) hL ?_
          refine pw_aload_n dL_law_461 rfl ?_
          refine pw_iload dL_law_462 rfl ?_
          refine pw_iconst (v := 2) dL_law_464 (by decide) ?_
          refine pw_iadd dL_law_465 ?_
          refine pw_xld (j := 6 * j + 2) dL_law_466 rfl (by rw [show (2 : Int32) = nI 2 by decide, nI_add]) (by omega) hL ?_
          refine pw_cVi (ci := 6) (y := yX6_register) (cc := cX6_register) (nL := 4) (ret := (some .int)) (rm := { frames := 2, cells := 0, slots := 0, locals := 43 }) dL_law_467 hM2 w_L_92 rfl (by decide) rfl ⟨(Nat.le_of_ble_eq_true rfl), (Nat.le_of_ble_eq_true rfl)⟩ (by show 84 + 2 * j + 2 + 0 ≤ 601024; omega) (by show 68892 + 12 * j + 12 + 0 ≤ 7293034; omega) rfl (Nat.le_of_ble_eq_true rfl) (fun b9 I2 J2 q2 => ?_)
          obtain ⟨hth, hout, c2, hLI2⟩ := hK2 b9 I2 J2 q2
          refine pw_istore dL_law_470 (Nat.le_of_ble_eq_true rfl) ?_
          refine pw_aload_n dL_law_472 rfl ?_
          refine pw_cVi (ci := 6) (y := yX6_thrown) (cc := cX6_thrown) (nL := 1) (ret := (some .int)) (rm := { frames := 0, cells := 0, slots := 0, locals := 0 }) dL_law_473 (r_thrown _ _) w_L_63 rfl (by decide) rfl ⟨(Nat.le_of_ble_eq_true rfl), (Nat.le_of_ble_eq_true rfl)⟩ (by show 84 + 2 * j + 2 + 0 + 0 ≤ 601024; omega) (by show 68892 + 12 * j + 12 + 0 + 0 ≤ 7293034; omega) rfl (Nat.le_of_ble_eq_true rfl) (fun x3 I3 J3 q3 => ?_)
          obtain ⟨rfl, rfl, rfl⟩ := rvq q3
          refine pw_iload dL_law_476 rfl ?_
          refine pw_icmp_eq (tgt := 483) dL_law_478 (by decide) (fun _ => ?_) (fun z => absurd hth z)
          refine pw_iload dL_law_483 rfl ?_
          refine pw_if_ne (tgt := 500) dL_law_485 (by decide) (fun h485 => ?_) (fun h485 => ?_)
          · refine pw_goto (tgt := 764) dL_law_500 (by decide) ?_
            refine pw_iinc (v := nI (6 * (j + 1))) dL_law_764 rfl (by rw [show Int32.ofInt 6 = nI 6 by decide, nI_add]; rfl) (Nat.le_of_ble_eq_true rfl) ?_
            refine pw_goto (tgt := 23) dL_law_767 (by decide) ?_
            refine pw_loc (L' := [(0, .ref 1006), (1, .ref 0), (2, .ref 64), (3, .ref 83), (4, .int (nI (6 * (j + 1))))]) rfl ?_
            refine pw_widen (k' := 84 + 2 * (j + 1)) (n' := 68892 + 12 * (j + 1)) (by first | (show 84 + 2 * j + 2 + 0 + 0 ≤ 84 + 2 * (j + 1); omega) | (show 84 + 2 * j + 1 + 0 + 0 ≤ 84 + 2 * (j + 1); omega) | (show 84 + 2 * j + 0 + 0 ≤ 84 + 2 * (j + 1); omega) | (show 84 + 2 * j + 0 ≤ 84 + 2 * (j + 1); omega)) (by first | (show 68892 + 12 * j + 12 + 0 + 0 ≤ 68892 + 12 * (j + 1); omega) | (show 68892 + 12 * j + 6 + 0 + 0 ≤ 68892 + 12 * (j + 1); omega) | (show 68892 + 12 * j + 0 + 0 ≤ 68892 + 12 * (j + 1); omega) | (show 68892 + 12 * j + 0 ≤ 68892 + 12 * (j + 1); omega)) ?_
            exact ih (j + 1) _ _ _ (by omega) (by omega) (by first | exact hLI2 | exact hLI)
          · refine pw_aload_n dL_law_488 rfl ?_
            refine pw_iconst (v := 0) dL_law_489 (by decide) ?_
            refine pw_lald dL_law_490 rfl (by decide) (by decide) (vp_in_nI (n := 0) (N := 1) (by decide) (by decide)) ?_
            refine pw_iload dL_law_491 rfl ?_
            refine pw_i2l dL_law_493 ?_
            refine pw_lcmp dL_law_494 ?_
            refine pw_if_eq (tgt := 500) dL_law_495 (by decide) (fun _ => ?_) (fun z => absurd ((lg_cmp_eq _ _).mpr (hout h485)) z)
            refine pw_goto (tgt := 764) dL_law_500 (by decide) ?_
            refine pw_iinc (v := nI (6 * (j + 1))) dL_law_764 rfl (by rw [show Int32.ofInt 6 = nI 6 by decide, nI_add]; rfl) (Nat.le_of_ble_eq_true rfl) ?_
            refine pw_goto (tgt := 23) dL_law_767 (by decide) ?_
            refine pw_loc (L' := [(0, .ref 1006), (1, .ref 0), (2, .ref 64), (3, .ref 83), (4, .int (nI (6 * (j + 1))))]) rfl ?_
            refine pw_widen (k' := 84 + 2 * (j + 1)) (n' := 68892 + 12 * (j + 1)) (by first | (show 84 + 2 * j + 2 + 0 + 0 ≤ 84 + 2 * (j + 1); omega) | (show 84 + 2 * j + 1 + 0 + 0 ≤ 84 + 2 * (j + 1); omega) | (show 84 + 2 * j + 0 + 0 ≤ 84 + 2 * (j + 1); omega) | (show 84 + 2 * j + 0 ≤ 84 + 2 * (j + 1); omega)) (by first | (show 68892 + 12 * j + 12 + 0 + 0 ≤ 68892 + 12 * (j + 1); omega) | (show 68892 + 12 * j + 6 + 0 + 0 ≤ 68892 + 12 * (j + 1); omega) | (show 68892 + 12 * j + 0 + 0 ≤ 68892 + 12 * (j + 1); omega) | (show 68892 + 12 * j + 0 ≤ 68892 + 12 * (j + 1); omega)) ?_
            exact ih (j + 1) _ _ _ (by omega) (by omega) (by first | exact hLI2 | exact hLI)
        · replace s40 := s40.trans (show _ = (8 : Int32) by decide)
          refine ⟨_, 503, rfl, by decide, ?_⟩
          obtain ⟨P1, hM1, hK1⟩ := k_about J (xs (6 * j + 1)) (xs (6 * j + 2)) hLI
          refine pw_aload_n dL_law_503 rfl ?_
          refine pw_aload_n dL_law_504 rfl ?_
          refine pw_iload dL_law_505 rfl ?_
          refine pw_iconst (v := 1) dL_law_507 (by decide) ?_
          refine pw_iadd dL_law_508 ?_
          refine pw_xld (j := 6 * j + 1) dL_law_509 rfl (by rw [show (1 : Int32) = nI 1 by decide, nI_add]) (by omega) hL ?_
          refine pw_aload_n dL_law_510 rfl ?_
          refine pw_iload dL_law_511 rfl ?_
          refine pw_iconst (v := 2) dL_law_513 (by decide) ?_
          refine pw_iadd dL_law_514 ?_
          refine pw_xld (j := 6 * j + 2) dL_law_515 rfl (by rw [show (2 : Int32) = nI 2 by decide, nI_add]) (by omega) hL ?_
          refine pw_aload_n dL_law_516 rfl ?_
          refine pw_cSW (y := yL_about) (cc := cL_about) (nL := 5) (ret := (some .int)) (rm := { frames := 8, cells := 2, slots := 12, locals := 134 }) dL_law_517 hM1 ww_93 rfl ⟨(Nat.le_of_ble_eq_true rfl), (Nat.le_of_ble_eq_true rfl)⟩ (by show 84 + 2 * j + 2 ≤ 601024; omega) (by show 68892 + 12 * j + 12 ≤ 7293034; omega) rfl (Nat.le_of_ble_eq_true rfl) (fun r I1 J1 q1 => ?_)
          obtain ⟨P2, hM2, hK2⟩ := hK1 r I1 J1 q1
          refine pw_istore dL_law_520 (Nat.le_of_ble_eq_true rfl) ?_
          refine pw_aload_n dL_law_522 rfl ?_
          refine pw_aload_n dL_law_523 rfl ?_
          refine pw_iload dL_law_524 rfl ?_
          refine pw_iconst (v := 1) dL_law_526 (by decide) ?_
          refine pw_iadd dL_law_527 ?_
          refine pw_xld (j := 6 * j + 1) dL_law_528 rfl (by rw [show (1 : Int32) = nI 1 by decide, nI_add]) (by omega) hL ?_
          refine pw_aload_n dL_law_529 rfl ?_
          refine pw_iload dL_law_530 rfl ?_
          refine pw_iconst (v := 2) dL_law_532 (by decide) ?_
          refine pw_iadd dL_law_533 ?_
          refine pw_xld (j := 6 * j + 2) dL_law_534 rfl (by rw [show (2 : Int32) = nI 2 by decide, nI_add]) (by omega) hL ?_
          refine pw_cVi (ci := 6) (y := yX6_about) (cc := cX6_about) (nL := 3) (ret := (some .int)) (rm := { frames := 2, cells := 0, slots := 0, locals := 43 }) dL_law_535 hM2 w_L_95 rfl (by decide) rfl ⟨(Nat.le_of_ble_eq_true rfl), (Nat.le_of_ble_eq_true rfl)⟩ (by show 84 + 2 * j + 2 + 0 ≤ 601024; omega) (by show 68892 + 12 * j + 12 + 0 ≤ 7293034; omega) rfl (Nat.le_of_ble_eq_true rfl) (fun b9 I2 J2 q2 => ?_)
          obtain ⟨hth, hout, c2, hLI2⟩ := hK2 b9 I2 J2 q2
          refine pw_istore dL_law_538 (Nat.le_of_ble_eq_true rfl) ?_
          refine pw_aload_n dL_law_540 rfl ?_
          refine pw_cVi (ci := 6) (y := yX6_thrown) (cc := cX6_thrown) (nL := 1) (ret := (some .int)) (rm := { frames := 0, cells := 0, slots := 0, locals := 0 }) dL_law_541 (r_thrown _ _) w_L_63 rfl (by decide) rfl ⟨(Nat.le_of_ble_eq_true rfl), (Nat.le_of_ble_eq_true rfl)⟩ (by show 84 + 2 * j + 2 + 0 + 0 ≤ 601024; omega) (by show 68892 + 12 * j + 12 + 0 + 0 ≤ 7293034; omega) rfl (Nat.le_of_ble_eq_true rfl) (fun x3 I3 J3 q3 => ?_)
          obtain ⟨rfl, rfl, rfl⟩ := rvq q3
          refine pw_iload dL_law_544 rfl ?_
          refine pw_icmp_eq (tgt := 551) dL_law_546 (by decide) (fun _ => ?_) (fun z => absurd hth z)
          refine pw_iload dL_law_551 rfl ?_
          refine pw_if_ne (tgt := 568) dL_law_553 (by decide) (fun h553 => ?_) (fun h553 => ?_)
          · refine pw_goto (tgt := 764) dL_law_568 (by decide) ?_
            refine pw_iinc (v := nI (6 * (j + 1))) dL_law_764 rfl (by rw [show Int32.ofInt 6 = nI 6 by decide, nI_add]; rfl) (Nat.le_of_ble_eq_true rfl) ?_
            refine pw_goto (tgt := 23) dL_law_767 (by decide) ?_
            refine pw_loc (L' := [(0, .ref 1006), (1, .ref 0), (2, .ref 64), (3, .ref 83), (4, .int (nI (6 * (j + 1))))]) rfl ?_
            refine pw_widen (k' := 84 + 2 * (j + 1)) (n' := 68892 + 12 * (j + 1)) (by first | (show 84 + 2 * j + 2 + 0 + 0 ≤ 84 + 2 * (j + 1); omega) | (show 84 + 2 * j + 1 + 0 + 0 ≤ 84 + 2 * (j + 1); omega) | (show 84 + 2 * j + 0 + 0 ≤ 84 + 2 * (j + 1); omega) | (show 84 + 2 * j + 0 ≤ 84 + 2 * (j + 1); omega)) (by first | (show 68892 + 12 * j + 12 + 0 + 0 ≤ 68892 + 12 * (j + 1); omega) | (show 68892 + 12 * j + 6 + 0 + 0 ≤ 68892 + 12 * (j + 1); omega) | (show 68892 + 12 * j + 0 + 0 ≤ 68892 + 12 * (j + 1); omega) | (show 68892 + 12 * j + 0 ≤ 68892 + 12 * (j + 1); omega)) ?_
            exact ih (j + 1) _ _ _ (by omega) (by omega) (by first | exact hLI2 | exact hLI)
          · refine pw_aload_n dL_law_556 rfl ?_
            refine pw_iconst (v := 0) dL_law_557 (by decide) ?_
            refine pw_lald dL_law_558 rfl (by decide) (by decide) (vp_in_nI (n := 0) (N := 1) (by decide) (by decide)) ?_
            refine pw_iload dL_law_559 rfl ?_
            refine pw_i2l dL_law_561 ?_
            refine pw_lcmp dL_law_562 ?_
            refine pw_if_eq (tgt := 568) dL_law_563 (by decide) (fun _ => ?_) (fun z => absurd ((lg_cmp_eq _ _).mpr (hout h553)) z)
            refine pw_goto (tgt := 764) dL_law_568 (by decide) ?_
            refine pw_iinc (v := nI (6 * (j + 1))) dL_law_764 rfl (by rw [show Int32.ofInt 6 = nI 6 by decide, nI_add]; rfl) (Nat.le_of_ble_eq_true rfl) ?_
            refine pw_goto (tgt := 23) dL_law_767 (by decide) ?_
            refine pw_loc (L' := [(0, .ref 1006), (1, .ref 0), (2, .ref 64), (3, .ref 83), (4, .int (nI (6 * (j + 1))))]) rfl ?_
            refine pw_widen (k' := 84 + 2 * (j + 1)) (n' := 68892 + 12 * (j + 1)) (by first | (show 84 + 2 * j + 2 + 0 + 0 ≤ 84 + 2 * (j + 1); omega) | (show 84 + 2 * j + 1 + 0 + 0 ≤ 84 + 2 * (j + 1); omega) | (show 84 + 2 * j + 0 + 0 ≤ 84 + 2 * (j + 1); omega) | (show 84 + 2 * j + 0 ≤ 84 + 2 * (j + 1); omega)) (by first | (show 68892 + 12 * j + 12 + 0 + 0 ≤ 68892 + 12 * (j + 1); omega) | (show 68892 + 12 * j + 6 + 0 + 0 ≤ 68892 + 12 * (j + 1); omega) | (show 68892 + 12 * j + 0 + 0 ≤ 68892 + 12 * (j + 1); omega) | (show 68892 + 12 * j + 0 ≤ 68892 + 12 * (j + 1); omega)) ?_
            exact ih (j + 1) _ _ _ (by omega) (by omega) (by first | exact hLI2 | exact hLI)
        · replace s40 := s40.trans (show _ = (9 : Int32) by decide)
          refine ⟨_, 571, rfl, by decide, ?_⟩
          obtain ⟨P1, hM1, hK1⟩ := k_run J (xs (6 * j + 1)) (xs (6 * j + 2)) hLI
          refine pw_aload_n dL_law_571 rfl ?_
          refine pw_aload_n dL_law_572 rfl ?_
          refine pw_iload dL_law_573 rfl ?_
          refine pw_iconst (v := 1) dL_law_575 (by decide) ?_
          refine pw_iadd dL_law_576 ?_
          refine pw_xld (j := 6 * j + 1) dL_law_577 rfl (by rw [show (1 : Int32) = nI 1 by decide, nI_add]) (by omega) hL ?_
          refine pw_aload_n dL_law_578 rfl ?_
          refine pw_iload dL_law_579 rfl ?_
          refine pw_iconst (v := 2) dL_law_581 (by decide) ?_
          refine pw_iadd dL_law_582 ?_
          refine pw_xld (j := 6 * j + 2) dL_law_583 rfl (by rw [show (2 : Int32) = nI 2 by decide, nI_add]) (by omega) hL ?_
          refine pw_aload_n dL_law_584 rfl ?_
          refine pw_cSW (y := yL_run) (cc := cL_run) (nL := 5) (ret := (some .int)) (rm := { frames := 7, cells := 1, slots := 6, locals := 124 }) dL_law_585 hM1 ww_96 rfl ⟨(Nat.le_of_ble_eq_true rfl), (Nat.le_of_ble_eq_true rfl)⟩ (by show 84 + 2 * j + 1 ≤ 601024; omega) (by show 68892 + 12 * j + 6 ≤ 7293034; omega) rfl (Nat.le_of_ble_eq_true rfl) (fun r I1 J1 q1 => ?_)
          obtain ⟨P2, hM2, hK2⟩ := hK1 r I1 J1 q1
          refine pw_istore dL_law_588 (Nat.le_of_ble_eq_true rfl) ?_
          refine pw_aload_n dL_law_590 rfl ?_
          refine pw_aload_n dL_law_591 rfl ?_
          refine pw_iload dL_law_592 rfl ?_
          refine pw_iconst (v := 1) dL_law_594 (by decide) ?_
          refine pw_iadd dL_law_595 ?_
          refine pw_xld (j := 6 * j + 1) dL_law_596 rfl (by rw [show (1 : Int32) = nI 1 by decide, nI_add]) (by omega) hL ?_
          refine pw_aload_n dL_law_597 rfl ?_
          refine pw_iload dL_law_598 rfl ?_
          refine pw_iconst (v := 2) dL_law_600 (by decide) ?_
          refine pw_iadd dL_law_601 ?_
          refine pw_xld (j := 6 * j + 2) dL_law_602 rfl (by rw [show (2 : Int32) = nI 2 by decide, nI_add]) (by omega) hL ?_
          refine pw_cVi (ci := 6) (y := yX6_run) (cc := cX6_run) (nL := 7) (ret := (some .int)) (rm := { frames := 3, cells := 0, slots := 0, locals := 76 }) dL_law_603 hM2 w_L_98 rfl (by decide) rfl ⟨(Nat.le_of_ble_eq_true rfl), (Nat.le_of_ble_eq_true rfl)⟩ (by show 84 + 2 * j + 1 + 0 ≤ 601024; omega) (by show 68892 + 12 * j + 6 + 0 ≤ 7293034; omega) rfl (Nat.le_of_ble_eq_true rfl) (fun b9 I2 J2 q2 => ?_)
          obtain ⟨hth, hout, c2, hLI2⟩ := hK2 b9 I2 J2 q2
          refine pw_istore dL_law_606 (Nat.le_of_ble_eq_true rfl) ?_
          refine pw_aload_n dL_law_608 rfl ?_
          refine pw_cVi (ci := 6) (y := yX6_thrown) (cc := cX6_thrown) (nL := 1) (ret := (some .int)) (rm := { frames := 0, cells := 0, slots := 0, locals := 0 }) dL_law_609 (r_thrown _ _) w_L_63 rfl (by decide) rfl ⟨(Nat.le_of_ble_eq_true rfl), (Nat.le_of_ble_eq_true rfl)⟩ (by show 84 + 2 * j + 1 + 0 + 0 ≤ 601024; omega) (by show 68892 + 12 * j + 6 + 0 + 0 ≤ 7293034; omega) rfl (Nat.le_of_ble_eq_true rfl) (fun x3 I3 J3 q3 => ?_)
          obtain ⟨rfl, rfl, rfl⟩ := rvq q3
          refine pw_iload dL_law_612 rfl ?_
          refine pw_icmp_eq (tgt := 619) dL_law_614 (by decide) (fun _ => ?_) (fun z => absurd hth z)
          refine pw_iload dL_law_619 rfl ?_
          refine pw_if_ne (tgt := 636) dL_law_621 (by decide) (fun h621 => ?_) (fun h621 => ?_)
          · refine pw_goto (tgt := 764) dL_law_636 (by decide) ?_
            refine pw_iinc (v := nI (6 * (j + 1))) dL_law_764 rfl (by rw [show Int32.ofInt 6 = nI 6 by decide, nI_add]; rfl) (Nat.le_of_ble_eq_true rfl) ?_
            refine pw_goto (tgt := 23) dL_law_767 (by decide) ?_
            refine pw_loc (L' := [(0, .ref 1006), (1, .ref 0), (2, .ref 64), (3, .ref 83), (4, .int (nI (6 * (j + 1))))]) rfl ?_
            refine pw_widen (k' := 84 + 2 * (j + 1)) (n' := 68892 + 12 * (j + 1)) (by first | (show 84 + 2 * j + 2 + 0 + 0 ≤ 84 + 2 * (j + 1); omega) | (show 84 + 2 * j + 1 + 0 + 0 ≤ 84 + 2 * (j + 1); omega) | (show 84 + 2 * j + 0 + 0 ≤ 84 + 2 * (j + 1); omega) | (show 84 + 2 * j + 0 ≤ 84 + 2 * (j + 1); omega)) (by first | (show 68892 + 12 * j + 12 + 0 + 0 ≤ 68892 + 12 * (j + 1); omega) | (show 68892 + 12 * j + 6 + 0 + 0 ≤ 68892 + 12 * (j + 1); omega) | (show 68892 + 12 * j + 0 + 0 ≤ 68892 + 12 * (j + 1); omega) | (show 68892 + 12 * j + 0 ≤ 68892 + 12 * (j + 1); omega)) ?_
            exact ih (j + 1) _ _ _ (by omega) (by omega) (by first | exact hLI2 | exact hLI)
          · refine pw_aload_n dL_law_624 rfl ?_
            refine pw_iconst (v := 0) dL_law_625 (by decide) ?_
            refine pw_lald dL_law_626 rfl (by decide) (by decide) (vp_in_nI (n := 0) (N := 1) (by decide) (by decide)) ?_
            refine pw_iload dL_law_627 rfl ?_
            refine pw_i2l dL_law_629 ?_
            refine pw_lcmp dL_law_630 ?_
            refine pw_if_eq (tgt := 636) dL_law_631 (by decide) (fun _ => ?_) (fun z => absurd ((lg_cmp_eq _ _).mpr (hout h621)) z)
            refine pw_goto (tgt := 764) dL_law_636 (by decide) ?_
            refine pw_iinc (v := nI (6 * (j + 1))) dL_law_764 rfl (by rw [show Int32.ofInt 6 = nI 6 by decide, nI_add]; rfl) (Nat.le_of_ble_eq_true rfl) ?_
            refine pw_goto (tgt := 23) dL_law_767 (by decide) ?_
            refine pw_loc (L' := [(0, .ref 1006), (1, .ref 0), (2, .ref 64), (3, .ref 83), (4, .int (nI (6 * (j + 1))))]) rfl ?_
            refine pw_widen (k' := 84 + 2 * (j + 1)) (n' := 68892 + 12 * (j + 1)) (by first | (show 84 + 2 * j + 2 + 0 + 0 ≤ 84 + 2 * (j + 1); omega) | (show 84 + 2 * j + 1 + 0 + 0 ≤ 84 + 2 * (j + 1); omega) | (show 84 + 2 * j + 0 + 0 ≤ 84 + 2 * (j + 1); omega) | (show 84 + 2 * j + 0 ≤ 84 + 2 * (j + 1); omega)) (by first | (show 68892 + 12 * j + 12 + 0 + 0 ≤ 68892 + 12 * (j + 1); omega) | (show 68892 + 12 * j + 6 + 0 + 0 ≤ 68892 + 12 * (j + 1); omega) | (show 68892 + 12 * j + 0 + 0 ≤ 68892 + 12 * (j + 1); omega) | (show 68892 + 12 * j + 0 ≤ 68892 + 12 * (j + 1); omega)) ?_
            exact ih (j + 1) _ _ _ (by omega) (by omega) (by first | exact hLI2 | exact hLI)
        · replace s40 := s40.trans (show _ = (10 : Int32) by decide)
          refine ⟨_, 639, rfl, by decide, ?_⟩
          obtain ⟨P1, hM1, hK1⟩ := k_judge J (xs (6 * j + 1)) hLI
          refine pw_aload_n dL_law_639 rfl ?_
          refine pw_aload_n dL_law_640 rfl ?_
          refine pw_iload dL_law_641 rfl ?_
          refine pw_iconst (v := 1) dL_law_643 (by decide) ?_
          refine pw_iadd dL_law_644 ?_
          refine pw_xld (j := 6 * j + 1) dL_law_645 rfl (by rw [show (1 : Int32) = nI 1 by decide, nI_add]) (by omega) hL ?_
          refine pw_aload_n dL_law_646 rfl ?_
          refine pw_cSW (y := yL_judge) (cc := cL_judge) (nL := 4) (ret := (some .int)) (rm := { frames := 7, cells := 1, slots := 6, locals := 171 }) dL_law_647 hM1 ww_99 rfl ⟨(Nat.le_of_ble_eq_true rfl), (Nat.le_of_ble_eq_true rfl)⟩ (by show 84 + 2 * j + 1 ≤ 601024; omega) (by show 68892 + 12 * j + 6 ≤ 7293034; omega) rfl (Nat.le_of_ble_eq_true rfl) (fun r I1 J1 q1 => ?_)
          obtain ⟨P2, hM2, hK2⟩ := hK1 r I1 J1 q1
          refine pw_istore dL_law_650 (Nat.le_of_ble_eq_true rfl) ?_
          refine pw_aload_n dL_law_652 rfl ?_
          refine pw_aload_n dL_law_653 rfl ?_
          refine pw_iload dL_law_654 rfl ?_
          refine pw_iconst (v := 1) dL_law_656 (by decide) ?_
          refine pw_iadd dL_law_657 ?_
          refine pw_xld (j := 6 * j + 1) dL_law_658 rfl (by rw [show (1 : Int32) = nI 1 by decide, nI_add]) (by omega) hL ?_
          refine pw_cVi (ci := 6) (y := yX6_judge) (cc := cX6_judge) (nL := 4) (ret := (some .int)) (rm := { frames := 5, cells := 0, slots := 0, locals := 120 }) dL_law_659 hM2 w_L_101 rfl (by decide) rfl ⟨(Nat.le_of_ble_eq_true rfl), (Nat.le_of_ble_eq_true rfl)⟩ (by show 84 + 2 * j + 1 + 0 ≤ 601024; omega) (by show 68892 + 12 * j + 6 + 0 ≤ 7293034; omega) rfl (Nat.le_of_ble_eq_true rfl) (fun b9 I2 J2 q2 => ?_)
          obtain ⟨hth, hout, c2, hLI2⟩ := hK2 b9 I2 J2 q2
          refine pw_istore dL_law_662 (Nat.le_of_ble_eq_true rfl) ?_
          refine pw_aload_n dL_law_664 rfl ?_
          refine pw_cVi (ci := 6) (y := yX6_thrown) (cc := cX6_thrown) (nL := 1) (ret := (some .int)) (rm := { frames := 0, cells := 0, slots := 0, locals := 0 }) dL_law_665 (r_thrown _ _) w_L_63 rfl (by decide) rfl ⟨(Nat.le_of_ble_eq_true rfl), (Nat.le_of_ble_eq_true rfl)⟩ (by show 84 + 2 * j + 1 + 0 + 0 ≤ 601024; omega) (by show 68892 + 12 * j + 6 + 0 + 0 ≤ 7293034; omega) rfl (Nat.le_of_ble_eq_true rfl) (fun x3 I3 J3 q3 => ?_)
          obtain ⟨rfl, rfl, rfl⟩ := rvq q3
          refine pw_iload dL_law_668 rfl ?_
          refine pw_icmp_eq (tgt := 675) dL_law_670 (by decide) (fun _ => ?_) (fun z => absurd hth z)
          refine pw_iload dL_law_675 rfl ?_
          refine pw_if_ne (tgt := 692) dL_law_677 (by decide) (fun h677 => ?_) (fun h677 => ?_)
          · refine pw_goto (tgt := 764) dL_law_692 (by decide) ?_
            refine pw_iinc (v := nI (6 * (j + 1))) dL_law_764 rfl (by rw [show Int32.ofInt 6 = nI 6 by decide, nI_add]; rfl) (Nat.le_of_ble_eq_true rfl) ?_
            refine pw_goto (tgt := 23) dL_law_767 (by decide) ?_
            refine pw_loc (L' := [(0, .ref 1006), (1, .ref 0), (2, .ref 64), (3, .ref 83), (4, .int (nI (6 * (j + 1))))]) rfl ?_
            refine pw_widen (k' := 84 + 2 * (j + 1)) (n' := 68892 + 12 * (j + 1)) (by first | (show 84 + 2 * j + 2 + 0 + 0 ≤ 84 + 2 * (j + 1); omega) | (show 84 + 2 * j + 1 + 0 + 0 ≤ 84 + 2 * (j + 1); omega) | (show 84 + 2 * j + 0 + 0 ≤ 84 + 2 * (j + 1); omega) | (show 84 + 2 * j + 0 ≤ 84 + 2 * (j + 1); omega)) (by first | (show 68892 + 12 * j + 12 + 0 + 0 ≤ 68892 + 12 * (j + 1); omega) | (show 68892 + 12 * j + 6 + 0 + 0 ≤ 68892 + 12 * (j + 1); omega) | (show 68892 + 12 * j + 0 + 0 ≤ 68892 + 12 * (j + 1); omega) | (show 68892 + 12 * j + 0 ≤ 68892 + 12 * (j + 1); omega)) ?_
            exact ih (j + 1) _ _ _ (by omega) (by omega) (by first | exact hLI2 | exact hLI)
          · refine pw_aload_n dL_law_680 rfl ?_
            refine pw_iconst (v := 0) dL_law_681 (by decide) ?_
            refine pw_lald dL_law_682 rfl (by decide) (by decide) (vp_in_nI (n := 0) (N := 1) (by decide) (by decide)) ?_
            refine pw_iload dL_law_683 rfl ?_
            refine pw_i2l dL_law_685 ?_
            refine pw_lcmp dL_law_686 ?_
            refine pw_if_eq (tgt := 692) dL_law_687 (by decide) (fun _ => ?_) (fun z => absurd ((lg_cmp_eq _ _).mpr (hout h677)) z)
            refine pw_goto (tgt := 764) dL_law_692 (by decide) ?_
            refine pw_iinc (v := nI (6 * (j + 1))) dL_law_764 rfl (by rw [show Int32.ofInt 6 = nI 6 by decide, nI_add]; rfl) (Nat.le_of_ble_eq_true rfl) ?_
            refine pw_goto (tgt := 23) dL_law_767 (by decide) ?_
            refine pw_loc (L' := [(0, .ref 1006), (1, .ref 0), (2, .ref 64), (3, .ref 83), (4, .int (nI (6 * (j + 1))))]) rfl ?_
            refine pw_widen (k' := 84 + 2 * (j + 1)) (n' := 68892 + 12 * (j + 1)) (by first | (show 84 + 2 * j + 2 + 0 + 0 ≤ 84 + 2 * (j + 1); omega) | (show 84 + 2 * j + 1 + 0 + 0 ≤ 84 + 2 * (j + 1); omega) | (show 84 + 2 * j + 0 + 0 ≤ 84 + 2 * (j + 1); omega) | (show 84 + 2 * j + 0 ≤ 84 + 2 * (j + 1); omega)) (by first | (show 68892 + 12 * j + 12 + 0 + 0 ≤ 68892 + 12 * (j + 1); omega) | (show 68892 + 12 * j + 6 + 0 + 0 ≤ 68892 + 12 * (j + 1); omega) | (show 68892 + 12 * j + 0 + 0 ≤ 68892 + 12 * (j + 1); omega) | (show 68892 + 12 * j + 0 ≤ 68892 + 12 * (j + 1); omega)) ?_
            exact ih (j + 1) _ _ _ (by omega) (by omega) (by first | exact hLI2 | exact hLI)
        · replace s40 := s40.trans (show _ = (11 : Int32) by decide)
          refine ⟨_, 695, rfl, by decide, ?_⟩
          refine pw_aload_n dL_law_695 rfl ?_
          refine pw_cVi (ci := 5) (y := yX5_states) (cc := cX5_states) (nL := 1) (ret := (some .int)) (rm := { frames := 0, cells := 0, slots := 0, locals := 0 }) dL_law_696 (c_states I J) w_L_102 rfl (by decide) rfl ⟨(Nat.le_of_ble_eq_true rfl), (Nat.le_of_ble_eq_true rfl)⟩ (by show 84 + 2 * j + 0 ≤ 601024; omega) (by show 68892 + 12 * j + 0 ≤ 7293034; omega) rfl (Nat.le_of_ble_eq_true rfl) (fun x1 I1 J1 q1 => ?_)
          obtain ⟨rfl, rfl, rfl⟩ := rvq q1
          refine pw_aload_n dL_law_699 rfl ?_
          refine pw_cVi (ci := 6) (y := yX6_states) (cc := cX6_states) (nL := 1) (ret := (some .int)) (rm := { frames := 0, cells := 0, slots := 0, locals := 0 }) dL_law_700 (r_states _ _) w_L_105 rfl (by decide) rfl ⟨(Nat.le_of_ble_eq_true rfl), (Nat.le_of_ble_eq_true rfl)⟩ (by show 84 + 2 * j + 0 + 0 ≤ 601024; omega) (by show 68892 + 12 * j + 0 + 0 ≤ 7293034; omega) rfl (Nat.le_of_ble_eq_true rfl) (fun x2 I2 J2 q2 => ?_)
          obtain ⟨rfl, rfl, rfl⟩ := rvq q2
          have hLI2 := hLI.thr (v := 0)
          refine pw_icmp_eq (tgt := 764) dL_law_703 (by decide) (fun _ => ?_) (fun z => absurd hLI.2.2.2.1 z)
          refine pw_iinc (v := nI (6 * (j + 1))) dL_law_764 rfl (by rw [show Int32.ofInt 6 = nI 6 by decide, nI_add]; rfl) (Nat.le_of_ble_eq_true rfl) ?_
          refine pw_goto (tgt := 23) dL_law_767 (by decide) ?_
          refine pw_loc (L' := [(0, .ref 1006), (1, .ref 0), (2, .ref 64), (3, .ref 83), (4, .int (nI (6 * (j + 1))))]) rfl ?_
          refine pw_widen (k' := 84 + 2 * (j + 1)) (n' := 68892 + 12 * (j + 1)) (by first | (show 84 + 2 * j + 2 + 0 + 0 ≤ 84 + 2 * (j + 1); omega) | (show 84 + 2 * j + 1 + 0 + 0 ≤ 84 + 2 * (j + 1); omega) | (show 84 + 2 * j + 0 + 0 ≤ 84 + 2 * (j + 1); omega) | (show 84 + 2 * j + 0 ≤ 84 + 2 * (j + 1); omega)) (by first | (show 68892 + 12 * j + 12 + 0 + 0 ≤ 68892 + 12 * (j + 1); omega) | (show 68892 + 12 * j + 6 + 0 + 0 ≤ 68892 + 12 * (j + 1); omega) | (show 68892 + 12 * j + 0 + 0 ≤ 68892 + 12 * (j + 1); omega) | (show 68892 + 12 * j + 0 ≤ 68892 + 12 * (j + 1); omega)) ?_
          exact ih (j + 1) _ _ _ (by omega) (by omega) (by first | exact hLI2 | exact hLI)
        · replace s40 := s40.trans (show _ = (12 : Int32) by decide)
          refine ⟨_, 708, rfl, by decide, ?_⟩
          obtain ⟨P1, hM1, hK1⟩ := k_trail J (xs (6 * j + 1)) hLI
          refine pw_aload_n dL_law_708 rfl ?_
          refine pw_aload_n dL_law_709 rfl ?_
          refine pw_iload dL_law_710 rfl ?_
          refine pw_iconst (v := 1) dL_law_712 (by decide) ?_
          refine pw_iadd dL_law_713 ?_
          refine pw_xld (j := 6 * j + 1) dL_law_714 rfl (by rw [show (1 : Int32) = nI 1 by decide, nI_add]) (by omega) hL ?_
          refine pw_aload_n dL_law_715 rfl ?_
          refine pw_cSW (y := yL_trail) (cc := cL_trail) (nL := 4) (ret := (some .int)) (rm := { frames := 7, cells := 1, slots := 6, locals := 111 }) dL_law_716 hM1 ww_106 rfl ⟨(Nat.le_of_ble_eq_true rfl), (Nat.le_of_ble_eq_true rfl)⟩ (by show 84 + 2 * j + 1 ≤ 601024; omega) (by show 68892 + 12 * j + 6 ≤ 7293034; omega) rfl (Nat.le_of_ble_eq_true rfl) (fun r I1 J1 q1 => ?_)
          obtain ⟨P2, hM2, hK2⟩ := hK1 r I1 J1 q1
          refine pw_istore dL_law_719 (Nat.le_of_ble_eq_true rfl) ?_
          refine pw_aload_n dL_law_721 rfl ?_
          refine pw_aload_n dL_law_722 rfl ?_
          refine pw_iload dL_law_723 rfl ?_
          refine pw_iconst (v := 1) dL_law_725 (by decide) ?_
          refine pw_iadd dL_law_726 ?_
          refine pw_xld (j := 6 * j + 1) dL_law_727 rfl (by rw [show (1 : Int32) = nI 1 by decide, nI_add]) (by omega) hL ?_
          refine pw_cVi (ci := 6) (y := yX6_trail) (cc := cX6_trail) (nL := 2) (ret := (some .int)) (rm := { frames := 1, cells := 0, slots := 0, locals := 22 }) dL_law_728 hM2 w_L_108 rfl (by decide) rfl ⟨(Nat.le_of_ble_eq_true rfl), (Nat.le_of_ble_eq_true rfl)⟩ (by show 84 + 2 * j + 1 + 0 ≤ 601024; omega) (by show 68892 + 12 * j + 6 + 0 ≤ 7293034; omega) rfl (Nat.le_of_ble_eq_true rfl) (fun b9 I2 J2 q2 => ?_)
          obtain ⟨hth, hout, c2, hLI2⟩ := hK2 b9 I2 J2 q2
          refine pw_istore dL_law_731 (Nat.le_of_ble_eq_true rfl) ?_
          refine pw_aload_n dL_law_733 rfl ?_
          refine pw_cVi (ci := 6) (y := yX6_thrown) (cc := cX6_thrown) (nL := 1) (ret := (some .int)) (rm := { frames := 0, cells := 0, slots := 0, locals := 0 }) dL_law_734 (r_thrown _ _) w_L_63 rfl (by decide) rfl ⟨(Nat.le_of_ble_eq_true rfl), (Nat.le_of_ble_eq_true rfl)⟩ (by show 84 + 2 * j + 1 + 0 + 0 ≤ 601024; omega) (by show 68892 + 12 * j + 6 + 0 + 0 ≤ 7293034; omega) rfl (Nat.le_of_ble_eq_true rfl) (fun x3 I3 J3 q3 => ?_)
          obtain ⟨rfl, rfl, rfl⟩ := rvq q3
          refine pw_iload dL_law_737 rfl ?_
          refine pw_icmp_eq (tgt := 744) dL_law_739 (by decide) (fun _ => ?_) (fun z => absurd hth z)
          refine pw_iload dL_law_744 rfl ?_
          refine pw_if_ne (tgt := 761) dL_law_746 (by decide) (fun h746 => ?_) (fun h746 => ?_)
          · refine pw_goto (tgt := 764) dL_law_761 (by decide) ?_
            refine pw_iinc (v := nI (6 * (j + 1))) dL_law_764 rfl (by rw [show Int32.ofInt 6 = nI 6 by decide, nI_add]; rfl) (Nat.le_of_ble_eq_true rfl) ?_
            refine pw_goto (tgt := 23) dL_law_767 (by decide) ?_
            refine pw_loc (L' := [(0, .ref 1006), (1, .ref 0), (2, .ref 64), (3, .ref 83), (4, .int (nI (6 * (j + 1))))]) rfl ?_
            refine pw_widen (k' := 84 + 2 * (j + 1)) (n' := 68892 + 12 * (j + 1)) (by first | (show 84 + 2 * j + 2 + 0 + 0 ≤ 84 + 2 * (j + 1); omega) | (show 84 + 2 * j + 1 + 0 + 0 ≤ 84 + 2 * (j + 1); omega) | (show 84 + 2 * j + 0 + 0 ≤ 84 + 2 * (j + 1); omega) | (show 84 + 2 * j + 0 ≤ 84 + 2 * (j + 1); omega)) (by first | (show 68892 + 12 * j + 12 + 0 + 0 ≤ 68892 + 12 * (j + 1); omega) | (show 68892 + 12 * j + 6 + 0 + 0 ≤ 68892 + 12 * (j + 1); omega) | (show 68892 + 12 * j + 0 + 0 ≤ 68892 + 12 * (j + 1); omega) | (show 68892 + 12 * j + 0 ≤ 68892 + 12 * (j + 1); omega)) ?_
            exact ih (j + 1) _ _ _ (by omega) (by omega) (by first | exact hLI2 | exact hLI)
          · refine pw_aload_n dL_law_749 rfl ?_
            refine pw_iconst (v := 0) dL_law_750 (by decide) ?_
            refine pw_lald dL_law_751 rfl (by decide) (by decide) (vp_in_nI (n := 0) (N := 1) (by decide) (by decide)) ?_
            refine pw_iload dL_law_752 rfl ?_
            refine pw_i2l dL_law_754 ?_
            refine pw_lcmp dL_law_755 ?_
            refine pw_if_eq (tgt := 761) dL_law_756 (by decide) (fun _ => ?_) (fun z => absurd ((lg_cmp_eq _ _).mpr (hout h746)) z)
            refine pw_goto (tgt := 764) dL_law_761 (by decide) ?_
            refine pw_iinc (v := nI (6 * (j + 1))) dL_law_764 rfl (by rw [show Int32.ofInt 6 = nI 6 by decide, nI_add]; rfl) (Nat.le_of_ble_eq_true rfl) ?_
            refine pw_goto (tgt := 23) dL_law_767 (by decide) ?_
            refine pw_loc (L' := [(0, .ref 1006), (1, .ref 0), (2, .ref 64), (3, .ref 83), (4, .int (nI (6 * (j + 1))))]) rfl ?_
            refine pw_widen (k' := 84 + 2 * (j + 1)) (n' := 68892 + 12 * (j + 1)) (by first | (show 84 + 2 * j + 2 + 0 + 0 ≤ 84 + 2 * (j + 1); omega) | (show 84 + 2 * j + 1 + 0 + 0 ≤ 84 + 2 * (j + 1); omega) | (show 84 + 2 * j + 0 + 0 ≤ 84 + 2 * (j + 1); omega) | (show 84 + 2 * j + 0 ≤ 84 + 2 * (j + 1); omega)) (by first | (show 68892 + 12 * j + 12 + 0 + 0 ≤ 68892 + 12 * (j + 1); omega) | (show 68892 + 12 * j + 6 + 0 + 0 ≤ 68892 + 12 * (j + 1); omega) | (show 68892 + 12 * j + 0 + 0 ≤ 68892 + 12 * (j + 1); omega) | (show 68892 + 12 * j + 0 ≤ 68892 + 12 * (j + 1); omega)) ?_
            exact ih (j + 1) _ _ _ (by omega) (by omega) (by first | exact hLI2 | exact hLI)
      · refine ⟨764, by decide, ?_⟩
        refine pw_iinc (v := nI (6 * (j + 1))) dL_law_764 rfl (by rw [show Int32.ofInt 6 = nI 6 by decide, nI_add]; rfl) (Nat.le_of_ble_eq_true rfl) ?_
        refine pw_goto (tgt := 23) dL_law_767 (by decide) ?_
        refine pw_loc (L' := [(0, .ref 1006), (1, .ref 0), (2, .ref 64), (3, .ref 83), (4, .int (nI (6 * (j + 1))))]) rfl ?_
        refine pw_widen (k' := 84 + 2 * (j + 1)) (n' := 68892 + 12 * (j + 1)) (by first | (show 84 + 2 * j + 2 + 0 + 0 ≤ 84 + 2 * (j + 1); omega) | (show 84 + 2 * j + 1 + 0 + 0 ≤ 84 + 2 * (j + 1); omega) | (show 84 + 2 * j + 0 + 0 ≤ 84 + 2 * (j + 1); omega) | (show 84 + 2 * j + 0 ≤ 84 + 2 * (j + 1); omega)) (by first | (show 68892 + 12 * j + 12 + 0 + 0 ≤ 68892 + 12 * (j + 1); omega) | (show 68892 + 12 * j + 6 + 0 + 0 ≤ 68892 + 12 * (j + 1); omega) | (show 68892 + 12 * j + 0 + 0 ≤ 68892 + 12 * (j + 1); omega) | (show 68892 + 12 * j + 0 ≤ 68892 + 12 * (j + 1); omega)) ?_
        exact ih (j + 1) _ _ _ (by omega) (by omega) (by first | exact hLI2 | exact hLI)
