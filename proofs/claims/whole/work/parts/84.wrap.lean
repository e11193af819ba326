/-! THE LAW's OWN METHODS: they call one method of the class, and catch what it throws -/
/-- how a throw of E at pc is caught: by which row, where it goes on -/
def CK (M : pT) (Q : pQ) (pc : Nat) (E : String) (n' : Nat) (I' : pI) (J' : pJ) (P' : pP) (kc ks : Nat) : Prop :=
  ∃ (pre : List (Nat × Nat × Nat × Nat)) (x : Nat × Nat × Nat × Nat) (suf : List (Nat × Nat × Nat × Nat)), pT.hh M = pre ++ x :: suf ∧ (∀ z ∈ pre, z.2.2.2 ≠ 0 ∧ ∃ nm, pIn (.classLink (pT.own M) z.2.2.2 nm) = true ∧ (E, nm) ∈ pNo) ∧ (x.1 ≤ pc ∧ pc < x.2.1) ∧ x.2.2.2 ≠ 0 ∧ pIn (.classLink (pT.own M) x.2.2.2 E) = true ∧ Cond.castable E E ∈ pOdd ∧
    ((∃ k : Fin 4, decode (pT.cc M) x.2.2.1 = .ok (.astore_n k, 1) ∧ (k : Nat) < pT.nL M ∧ PW M Q (x.2.2.1 + 1) [] [] n' I' J' P' kc ks) ∨ (∃ k : Nat, decode (pT.cc M) x.2.2.1 = .ok (.astore k, 2) ∧ k < pT.nL M ∧ PW M Q (x.2.2.1 + 2) [] [] n' I' J' P' kc ks))
section Rows
variable {M : pT} {Q Q' : pQ} {pc : Nat} {L : List (Nat × Value)} {st : List Value} {n : Nat} {I : pI} {J : pJ} {P : pP} {kc ks : Nat}
theorem pw_runC {V : pEnv} {A : Nat → Prop} {p : Program} {l : Launch} {e : Env} {s : State} {m : MethodId} {args : Array Value} {below : List Frame} {meth : Method} {c : Code} {H : Heap} {locs : List Loc} {ls : Array Slot} {aa : Array Value} {st0 : List Value} {mc ms : Nat}
    (C : pCx M V A p l s m args meth c) (hS : va_S A s.heap H locs) (hn : ∀ a, a < n → A (pEnv.b V + a)) (hl : lv_has ls (pT.nL M) (mL V L))
    (hr : vx_Run p l e (pT.R M) s m args below meth c H locs kc ks mc ms (F0 m pc ls st0) (st.map (rv V)) (pQc V Q' (pA (pEnv.b V) n H.size) aa) (pXC V Q' (pA (pEnv.b V) n H.size)) (pA (pEnv.b V) n H.size))
    (hc : kc + mc ≤ (pT.R M).cells) (hs : ks + ms ≤ (pT.R M).slots)
    (kx : ∀ E n' I' J' P', Q' (.inr E) n' I' J' P' → CK M Q pc E n' I' J' P' (kc + mc) (ks + ms))
    (kk : ∀ r n' I' J' P', Q' (.inl r) n' I' J' P' → PW M Q (pc + 3) L (r.toList ++ st) n' I' J' P' (kc + mc) (ks + ms)) :
    W p l e (pT.R M) s m args below meth c H locs kc ks (vx_MQ below (pQc V Q A) (pXC V Q A) args s (pT.R M).cells (pT.R M).slots A) (F0 m pc ls st0) := by
  obtain ⟨hx, hb, hr', hml, hown, hts, hlo, htb, hK, hA, hF, hst, hE⟩ := id C
  have hsub : ∀ q, pA (pEnv.b V) n H.size q → A q := by
    intro q h
    rcases h with ⟨h1, h2⟩ | h
    · have h3 := hn (q - pEnv.b V) (by omega)
      rwa [Nat.add_sub_cancel' h1] at h3
    · exact hA q (Nat.le_trans hS.1 h)
  intro T hT X
  rcases hr T hT X with ⟨v, st₀, t, T', L9, h0, X', hL, e1, e2, ⟨⟨r, n', I', J', P', hv, hq, hn', hP', hK', hz'⟩, hF9⟩, go⟩ | ⟨q, st₀, t, T', L9, E, ce, h0, X', hL, e1, e2, ⟨⟨n', I', J', P', hq, hn', hP', hK', hz'⟩, hF9⟩, hce, hcv, hcl, go⟩
  · obtain ⟨k1, k2, k3⟩ := vx_keep h0 e1 hS (fun q _ h => hsub q h) hsub hL hF9
    have hv' : v = r.map (rv V) := Outcome.returned.inj hv
    subst hv'
    have h := kk r n' I' J' P' hq V A p l e s m args below meth c T'.heap (locs ++ L9) ls C (by rw [e1]; exact hP') k3 (fun a h => hsub _ (hn' a h)) (by rw [e1]; exact hz') hl T' rfl X'
    obtain ⟨t2, a1, b1⟩ := h
    refine ⟨t2, go t2 ?_, b1⟩
    have e3 : (r.map (rv V)).toList ++ st.map (rv V) = (r.toList ++ st).map (rv V) := by cases r <;> simp
    rw [e3]
    exact a1
  · obtain ⟨k1, k2, k3⟩ := vx_keep h0 e1 hS (fun q _ h => hsub q h) hsub hL hF9
    obtain ⟨pre, x, suf, hsp, hpass, hcov, hct, hlk, hod, hpc⟩ := kx _ _ _ _ _ hq
    have hkk : ∀ (pc1 : Nat) (ls1 : Array Slot), ls1.size = pT.nL M → lv_wf ls1 → PW M Q pc1 [] [] n' I' J' P' (kc + mc) (ks + ms) → W p l e (pT.R M) s m args below meth c T'.heap (locs ++ L9) (kc + mc) (ks + ms) (vx_MQ below (pQc V Q A) (pXC V Q A) args s (pT.R M).cells (pT.R M).slots A) (F0 m pc1 ls1 []) := fun pc1 ls1 h1 h2 hp =>
      hp V A p l e s m args below meth c T'.heap (locs ++ L9) ls1 C (by rw [e1]; exact hP') k3 (fun a h => hsub _ (hn' a h)) (by rw [e1]; exact hz') ⟨h1, h2, fun q hq => nomatch hq⟩
    have h := vx_catch (p := p) (l := l) (e := e) (R := pT.R M) (s := s) (m := m) (args := args) (below := below) (meth := meth) (c := c) (H := T'.heap) (locs := locs ++ L9) (cells := kc + mc) (slots := ks + ms) (ls := ls) (rest := st.map (rv V)) (pc := pc) (E := E) (name := E) (ce := ce) (q := q) (Q := vx_MQ below (pQc V Q A) (pXC V Q A) args s (pT.R M).cells (pT.R M).slots A)
      hown (tableOf pre) ⟨x.1, x.2.1, x.2.2.1, x.2.2.2⟩ (tableOf suf) (by rw [htb, hsp]; simp [tableOf]) (fun z hz => by
        obtain ⟨z0, hz0, rfl⟩ := List.mem_map.mp hz
        obtain ⟨a1, nm, a2, a3⟩ := hpass z0 hz0
        exact Or.inr ⟨a1, nm, hts _ (pIn_mem a2), hF.2.2.2.2.2.2 _ a3⟩) (by simp [hcov]) hct (hts _ (pIn_mem hlk)) (pCD_use (List.all_eq_true.mp pOdd_cd _ hod) (hF.2.2.2.2.2.1 _ hod)) (by rw [e1]; exact hce) hcv hcl (by
        rcases hpc with ⟨k, hd1, hk1, hp1⟩ | ⟨k, hd1, hk1, hp1⟩
        · exact lv_astore_n hx hb hd1 rfl hl hk1 rfl (fun ls1 hl1 => hkk _ ls1 hl1.1 hl1.2.1 hp1)
        · exact lv_astore hx hb hd1 hl hk1 rfl (fun ls1 hl1 => hkk _ ls1 hl1.1 hl1.2.1 hp1))
    obtain ⟨t2, a1, b1⟩ := h T' rfl X'
    exact ⟨t2, go.trans a1, b1⟩
theorem pw_callVC {y : MethodName} {cc : ByteArray} {nL : Nat} {ret : Option FieldType} {rm : Room} {as st0 : List Value} {a idx ci : Nat} (hd : decode (pT.cc M) pc = .ok (.invokevirtual idx, 3)) (hM : pMet y (pws y cc nL ret) rm (.ref a :: as) n I J P Q') (hw : pWV (pT.own M) idx ci y cc nL ret as.length = true) (hk : (pS a).1 = ci) (ha : a < n) (hn9 : n ≤ 1000)
    (hR : rm.frames + 1 ≤ (pT.R M).frames ∧ 8 + (nL + 11) + rm.locals ≤ (pT.R M).locals) (hc : kc + rm.cells ≤ (pT.R M).cells) (hs : ks + rm.slots ≤ (pT.R M).slots) (h0 : st0 = as.reverse ++ .ref a :: st) (h8 : (st.map fun v => v.category).sum ≤ 8)
    (kx : ∀ E n' I' J' P', Q' (.inr E) n' I' J' P' → CK M Q pc E n' I' J' P' (kc + rm.cells) (ks + rm.slots))
    (kk : ∀ r n' I' J' P', Q' (.inl r) n' I' J' P' → PW M Q (pc + 3) L (r.toList ++ st) n' I' J' P' (kc + rm.cells) (ks + rm.slots)) : PW M Q pc L st0 n I J P kc ks := by
  intro V A p l e s m args below meth c H locs ls C hP hS hn hz hl
  obtain ⟨hx, hb, hr, hml, hown, hts, hlo, htb, hK, hA, hF, hst, hE⟩ := id C
  simp only [pWV, Bool.and_eq_true, decide_eq_true_eq] at hw
  obtain ⟨w1, w2, w3, w4, w5, w6, w7, w8, w9⟩ := hw
  have hG : GoodIn pww (wsV (pT.own M) idx (pC ci).1 y (pws y cc nL ret)) := pww_good (fun _ h => h) (fun w h => by
    rcases List.mem_append.mp h with h | h
    · simp only [List.mem_cons, List.not_mem_nil, or_false] at h
      rcases h with rfl | rfl | rfl | rfl
      · exact pIn_mem w1
      · exact pIn_mem w2
      · exact pIn_mem w3
      · exact pIn_mem w4
    · exact pws_in w5 w h)
  have hrun := vx_runV (p := p) (l := l) (e := e) (R := pT.R M) (below := below) (meth := meth) (H := H) (locs := locs) (cells := kc) (slots := ks) (g := F0 m pc ls (st0.map (rv V))) (b := pEnv.b V + a) (As := as.map (rv V)) (rest := st.map (rv V)) (Ts := pww) ⟨hx, hb, hml, hown, hts⟩ (hM l V H.size hst) (cwV as.length hts hG rfl rfl rfl ⟨w7, w8.1, w8.2, w9⟩ hR)
    ⟨pPc_blind V _ n I J P H.size, va_recv hK hP (pC_at ci w6) (by rw [wl_at V I J P ha, pE_obj hk w6]), by
      have h := pw_pre (as := .ref a :: as) C hP hS hn hz
      intro U hU hW
      have h1 := h U hU hW
      rw [List.map_cons, rv_lt V (by omega)] at h1
      exact h1⟩ rfl (by simp) hl.1 (by
      show st0.map (rv V) = _
      rw [h0]; simp [rv_lt V (show a < 1000 by omega)]) (by
      have e9 : ((st.map (rv V)).map fun v => v.category) = st.map fun v => v.category := by simp [List.map_map, Function.comp_def, rv_cat]
      show 2 * (F0 m pc ls (st0.map (rv V))).monitorRoom + _ ≤ 8
      rw [e9]; simpa [JFrame.monitorRoom] using h8) hd ⟨hc, hs⟩
  exact pw_runC C hS hn hl hrun hc hs kx kk
end Rows
def pwh (y : MethodName) (cc : ByteArray) (nL : Nat) (ret : Option FieldType) (hh : List (Nat × Nat × Nat × Nat)) : List Cond := .codeWith y cc nL ret hh :: pww
theorem pMetH_of {y : MethodName} {cc : ByteArray} {nL : Nat} {ret : Option FieldType} {rm : Room} {as : List Value} {n : Nat} {I : pI} {J : pJ} {P : pP} {Q : pQ} {hh : List (Nat × Nat × Nat × Nat)} (hy : plainName y.cls = true) (hlen : (lg_sl as).length ≤ nL)
    (k : PW (y.cls, cc, nL, ret, rm, hh, none) Q 0 (lv_args 0 as) [] n I J P 0 0) : pMet y (pwh y cc nL ret hh) rm as n I J P Q := by
  intro l V sz hst
  refine vx_ofWH (cc := cc) (maxL := nL) (ret := ret) (hh := hh) hy rfl ?_
  intro p e s m args below meth c s₁ B hml hv
  obtain ⟨rfl, hsz, ⟨hP, hK, hz⟩, hF⟩ := hv
  have hts := atoms_spec (ws := pwh y cc nL ret hh) B.pre
  have hown : s.vm.findClass y.cls = some m.cls := findClass_of_methodNamed B.named
  subst hsz
  have hlen' : (lg_sl (as.map (rv V))).length ≤ nL := by
    have : (lg_sl (as.map (rv V))).length = (lg_sl as).length := by
      unfold lg_sl
      clear hlen k hP hz hF B hts
      induction as with
      | nil => rfl
      | cons v t ih =>
        simp only [List.map_cons, List.flatMap_cons, List.length_append, ih, rv_cat]
        congr 1
        split <;> rfl
    omega
  have hl := lv_entry (as.map (rv V)) (n := nL) hlen'
  rw [lg_entry_eq]
  rw [lv_args_map] at hl
  have htb : c.exceptionTable.toList = tableOf hh := vx_table (x := y) B (hts _ List.mem_cons_self)
  exact k V (pA (pEnv.b V) n s.heap.size) p l e s m _ below meth c s.heap [] _ ⟨B.exec, B.bytes, B.returns, hml, hown, fun w h => hts w (List.mem_cons_of_mem _ h), B.notSynchronized, htb, hK, fun q h => Or.inr h, hF, hst, fun _ _ _ h => nomatch h⟩ hP va_S.rf (fun a h => Or.inl ⟨by omega, by omega⟩) hz hl
theorem wl_13 : pIn (.classLink RL 13 eA) = true := by decide +kernel
theorem wl_23 : pIn (.classLink RL 23 eS) = true := by decide +kernel
theorem wl_35 : pIn (.classLink RL 35 eB) = true := by decide +kernel
theorem od_A : Cond.castable eA eA ∈ pOdd := by decide +kernel
theorem od_S : Cond.castable eS eS ∈ pOdd := by decide +kernel
theorem od_B : Cond.castable eB eB ∈ pOdd := by decide +kernel
theorem no_S : (eS, eA) ∈ pNo := by decide
theorem no_B : (eB, eA) ∈ pNo := by decide
set_option maxRecDepth 100000 in
set_option maxHeartbeats 4000000 in
theorem w_exhibit (x0 x1 : Int32) (I : pI) (J : pJ) {post : pI → pJ → Prop} (hM : pMet yX5_exhibit (pws yX5_exhibit cX5_exhibit 3 none) { frames := 6, cells := 1, slots := 6, locals := 90 } [.ref 0, .int x0, .int x1] 84 I J pRs (pOv post)) : pMet yL_exhibit (pwh yL_exhibit cL_exhibit 4 (some .int) [(0, 6, 9, 13)]) { frames := 7, cells := 1, slots := 6, locals := 112 } [.ref 0, .int x0, .int x1] 84 I J pRs (pOi (fun r I' J' => r = 0 ∧ post I' J')) := by
  refine pMetH_of (by decide) (Nat.le_of_ble_eq_true rfl) ?_
  refine pw_aload_n dL_exhibit_0 rfl ?_
  refine pw_iload_n dL_exhibit_1 rfl ?_
  refine pw_iload_n dL_exhibit_2 rfl ?_
  refine pw_callVC (ci := 5) (y := yX5_exhibit) (cc := cX5_exhibit) (nL := 3) (ret := none) (rm := { frames := 6, cells := 1, slots := 6, locals := 90 }) dL_exhibit_3 hM w_L_7 rfl (by decide) (by decide) ⟨by decide, by decide⟩ (by decide) (by decide) rfl (Nat.le_of_ble_eq_true rfl) (fun E n' I' J' P' h => by obtain ⟨h, -⟩ := h; cases h) (fun r n' I' J' P' h => ?_)
  obtain ⟨h1, rfl, rfl, h2⟩ := h
  cases h1
  refine pw_goto (tgt := 12) dL_exhibit_6 (by decide) ?_
  refine pw_iconst (v := 0) dL_exhibit_12 (by decide) ?_
  refine pw_iret dL_exhibit_13 rfl rfl (by decide) (by decide) ?_
  exact ⟨_, rfl, rfl, rfl, rfl, h2⟩
set_option maxRecDepth 100000 in
set_option maxHeartbeats 4000000 in
theorem w_exhibit_A (x0 x1 : Int32) (I : pI) (J : pJ) {post : pI → pJ → Prop} (hM : pMet yX5_exhibit (pws yX5_exhibit cX5_exhibit 3 none) { frames := 6, cells := 1, slots := 6, locals := 90 } [.ref 0, .int x0, .int x1] 84 I J pRs (pOx eA post)) : pMet yL_exhibit (pwh yL_exhibit cL_exhibit 4 (some .int) [(0, 6, 9, 13)]) { frames := 7, cells := 1, slots := 6, locals := 112 } [.ref 0, .int x0, .int x1] 84 I J pRs (pOi (fun r I' J' => r = 1 ∧ post I' J')) := by
  refine pMetH_of (by decide) (Nat.le_of_ble_eq_true rfl) ?_
  refine pw_aload_n dL_exhibit_0 rfl ?_
  refine pw_iload_n dL_exhibit_1 rfl ?_
  refine pw_iload_n dL_exhibit_2 rfl ?_
  refine pw_callVC (ci := 5) (y := yX5_exhibit) (cc := cX5_exhibit) (nL := 3) (ret := none) (rm := { frames := 6, cells := 1, slots := 6, locals := 90 }) dL_exhibit_3 hM w_L_7 rfl (by decide) (by decide) ⟨by decide, by decide⟩ (by decide) (by decide) rfl (Nat.le_of_ble_eq_true rfl) (fun E n' I' J' P' h => ?_) (fun r n' I' J' P' h => by obtain ⟨h, -⟩ := h; cases h)
  obtain ⟨h1, rfl, rfl, h4⟩ := h
  cases h1
  refine ⟨[], (0, 6, 9, 13), [], rfl, (fun z hz => by cases hz), ⟨by decide, by decide⟩, by decide, wl_13, od_A, Or.inl ⟨3, dL_exhibit_9, by decide, ?_⟩⟩
  refine pw_iconst (v := 1) dL_exhibit_10 (by decide) ?_
  refine pw_iret dL_exhibit_11 rfl rfl (by decide) (by decide) ?_
  exact ⟨_, rfl, rfl, rfl, rfl, h4⟩
set_option maxRecDepth 100000 in
set_option maxHeartbeats 4000000 in
theorem w_change (x0 x1 x2 x3 x4 : Int32) (I : pI) (J : pJ) {post : pI → pJ → Prop} (hM : pMet yX5_change (pws yX5_change cX5_change 6 none) { frames := 6, cells := 1, slots := 6, locals := 90 } [.ref 0, .int x0, .int x1, .int x2, .int x3, .int x4] 84 I J pRs (pOv post)) : pMet yL_change (pwh yL_change cL_change 7 (some .int) [(0, 11, 14, 13)]) { frames := 7, cells := 1, slots := 6, locals := 115 } [.ref 0, .int x0, .int x1, .int x2, .int x3, .int x4] 84 I J pRs (pOi (fun r I' J' => r = 0 ∧ post I' J')) := by
  refine pMetH_of (by decide) (Nat.le_of_ble_eq_true rfl) ?_
  refine pw_aload_n dL_change_0 rfl ?_
  refine pw_iload_n dL_change_1 rfl ?_
  refine pw_iload_n dL_change_2 rfl ?_
  refine pw_iload_n dL_change_3 rfl ?_
  refine pw_iload dL_change_4 rfl ?_
  refine pw_iload dL_change_6 rfl ?_
  refine pw_callVC (ci := 5) (y := yX5_change) (cc := cX5_change) (nL := 6) (ret := none) (rm := { frames := 6, cells := 1, slots := 6, locals := 90 }) dL_change_8 hM w_L_15 rfl (by decide) (by decide) ⟨by decide, by decide⟩ (by decide) (by decide) rfl (Nat.le_of_ble_eq_true rfl) (fun E n' I' J' P' h => by obtain ⟨h, -⟩ := h; cases h) (fun r n' I' J' P' h => ?_)
  obtain ⟨h1, rfl, rfl, h2⟩ := h
  cases h1
  refine pw_goto (tgt := 18) dL_change_11 (by decide) ?_
  refine pw_iconst (v := 0) dL_change_18 (by decide) ?_
  refine pw_iret dL_change_19 rfl rfl (by decide) (by decide) ?_
  exact ⟨_, rfl, rfl, rfl, rfl, h2⟩
set_option maxRecDepth 100000 in
set_option maxHeartbeats 4000000 in
theorem w_change_A (x0 x1 x2 x3 x4 : Int32) (I : pI) (J : pJ) {post : pI → pJ → Prop} (hM : pMet yX5_change (pws yX5_change cX5_change 6 none) { frames := 6, cells := 1, slots := 6, locals := 90 } [.ref 0, .int x0, .int x1, .int x2, .int x3, .int x4] 84 I J pRs (pOx eA post)) : pMet yL_change (pwh yL_change cL_change 7 (some .int) [(0, 11, 14, 13)]) { frames := 7, cells := 1, slots := 6, locals := 115 } [.ref 0, .int x0, .int x1, .int x2, .int x3, .int x4] 84 I J pRs (pOi (fun r I' J' => r = 1 ∧ post I' J')) := by
  refine pMetH_of (by decide) (Nat.le_of_ble_eq_true rfl) ?_
  refine pw_aload_n dL_change_0 rfl ?_
  refine pw_iload_n dL_change_1 rfl ?_
  refine pw_iload_n dL_change_2 rfl ?_
  refine pw_iload_n dL_change_3 rfl ?_
  refine pw_iload dL_change_4 rfl ?_
  refine pw_iload dL_change_6 rfl ?_
  refine pw_callVC (ci := 5) (y := yX5_change) (cc := cX5_change) (nL := 6) (ret := none) (rm := { frames := 6, cells := 1, slots := 6, locals := 90 }) dL_change_8 hM w_L_15 rfl (by decide) (by decide) ⟨by decide, by decide⟩ (by decide) (by decide) rfl (Nat.le_of_ble_eq_true rfl) (fun E n' I' J' P' h => ?_) (fun r n' I' J' P' h => by obtain ⟨h, -⟩ := h; cases h)
  obtain ⟨h1, rfl, rfl, h4⟩ := h
  cases h1
  refine ⟨[], (0, 11, 14, 13), [], rfl, (fun z hz => by cases hz), ⟨by decide, by decide⟩, by decide, wl_13, od_A, Or.inr ⟨6, dL_change_14, by decide, ?_⟩⟩
  refine pw_iconst (v := 1) dL_change_16 (by decide) ?_
  refine pw_iret dL_change_17 rfl rfl (by decide) (by decide) ?_
  exact ⟨_, rfl, rfl, rfl, rfl, h4⟩
set_option maxRecDepth 100000 in
set_option maxHeartbeats 4000000 in
theorem w_want (x0 : Int32) (I : pI) (J : pJ) {post : pI → pJ → Prop} (hM : pMet yX5_want (pws yX5_want cX5_want 3 none) { frames := 7, cells := 2, slots := 12, locals := 111 } [.ref 0, .int x0] 84 I J pRs (pOv post)) : pMet yL_want (pwh yL_want cL_want 3 (some .int) [(0, 5, 8, 13), (0, 5, 11, 23)]) { frames := 8, cells := 2, slots := 12, locals := 133 } [.ref 0, .int x0] 84 I J pRs (pOi (fun r I' J' => r = 0 ∧ post I' J')) := by
  refine pMetH_of (by decide) (Nat.le_of_ble_eq_true rfl) ?_
  refine pw_aload_n dL_want_0 rfl ?_
  refine pw_iload_n dL_want_1 rfl ?_
  refine pw_callVC (ci := 5) (y := yX5_want) (cc := cX5_want) (nL := 3) (ret := none) (rm := { frames := 7, cells := 2, slots := 12, locals := 111 }) dL_want_2 hM w_L_19 rfl (by decide) (by decide) ⟨by decide, by decide⟩ (by decide) (by decide) rfl (Nat.le_of_ble_eq_true rfl) (fun E n' I' J' P' h => by obtain ⟨h, -⟩ := h; cases h) (fun r n' I' J' P' h => ?_)
  obtain ⟨h1, rfl, rfl, h2⟩ := h
  cases h1
  refine pw_goto (tgt := 14) dL_want_5 (by decide) ?_
  refine pw_iconst (v := 0) dL_want_14 (by decide) ?_
  refine pw_iret dL_want_15 rfl rfl (by decide) (by decide) ?_
  exact ⟨_, rfl, rfl, rfl, rfl, h2⟩
set_option maxRecDepth 100000 in
set_option maxHeartbeats 4000000 in
theorem w_want_A (x0 : Int32) (I : pI) (J : pJ) {post : pI → pJ → Prop} (hM : pMet yX5_want (pws yX5_want cX5_want 3 none) { frames := 7, cells := 2, slots := 12, locals := 111 } [.ref 0, .int x0] 84 I J pRs (pOx eA post)) : pMet yL_want (pwh yL_want cL_want 3 (some .int) [(0, 5, 8, 13), (0, 5, 11, 23)]) { frames := 8, cells := 2, slots := 12, locals := 133 } [.ref 0, .int x0] 84 I J pRs (pOi (fun r I' J' => r = 1 ∧ post I' J')) := by
  refine pMetH_of (by decide) (Nat.le_of_ble_eq_true rfl) ?_
  refine pw_aload_n dL_want_0 rfl ?_
  refine pw_iload_n dL_want_1 rfl ?_
  refine pw_callVC (ci := 5) (y := yX5_want) (cc := cX5_want) (nL := 3) (ret := none) (rm := { frames := 7, cells := 2, slots := 12, locals := 111 }) dL_want_2 hM w_L_19 rfl (by decide) (by decide) ⟨by decide, by decide⟩ (by decide) (by decide) rfl (Nat.le_of_ble_eq_true rfl) (fun E n' I' J' P' h => ?_) (fun r n' I' J' P' h => by obtain ⟨h, -⟩ := h; cases h)
  obtain ⟨h1, rfl, rfl, h4⟩ := h
  cases h1
  refine ⟨[], (0, 5, 8, 13), [(0, 5, 11, 23)], rfl, (fun z hz => by cases hz), ⟨by decide, by decide⟩, by decide, wl_13, od_A, Or.inl ⟨2, dL_want_8, by decide, ?_⟩⟩
  refine pw_iconst (v := 1) dL_want_9 (by decide) ?_
  refine pw_iret dL_want_10 rfl rfl (by decide) (by decide) ?_
  exact ⟨_, rfl, rfl, rfl, rfl, h4⟩
set_option maxRecDepth 100000 in
set_option maxHeartbeats 4000000 in
theorem w_want_S (x0 : Int32) (I : pI) (J : pJ) {post : pI → pJ → Prop} (hM : pMet yX5_want (pws yX5_want cX5_want 3 none) { frames := 7, cells := 2, slots := 12, locals := 111 } [.ref 0, .int x0] 84 I J pRs (pOx eS post)) : pMet yL_want (pwh yL_want cL_want 3 (some .int) [(0, 5, 8, 13), (0, 5, 11, 23)]) { frames := 8, cells := 2, slots := 12, locals := 133 } [.ref 0, .int x0] 84 I J pRs (pOi (fun r I' J' => r = 2 ∧ post I' J')) := by
  refine pMetH_of (by decide) (Nat.le_of_ble_eq_true rfl) ?_
  refine pw_aload_n dL_want_0 rfl ?_
  refine pw_iload_n dL_want_1 rfl ?_
  refine pw_callVC (ci := 5) (y := yX5_want) (cc := cX5_want) (nL := 3) (ret := none) (rm := { frames := 7, cells := 2, slots := 12, locals := 111 }) dL_want_2 hM w_L_19 rfl (by decide) (by decide) ⟨by decide, by decide⟩ (by decide) (by decide) rfl (Nat.le_of_ble_eq_true rfl) (fun E n' I' J' P' h => ?_) (fun r n' I' J' P' h => by obtain ⟨h, -⟩ := h; cases h)
  obtain ⟨h1, rfl, rfl, h4⟩ := h
  cases h1
  refine ⟨[(0, 5, 8, 13)], (0, 5, 11, 23), [], rfl, (fun z hz => by rw [List.mem_singleton.mp hz]; exact ⟨by decide, eA, wl_13, no_S⟩), ⟨by decide, by decide⟩, by decide, wl_23, od_S, Or.inl ⟨2, dL_want_11, by decide, ?_⟩⟩
  refine pw_iconst (v := 2) dL_want_12 (by decide) ?_
  refine pw_iret dL_want_13 rfl rfl (by decide) (by decide) ?_
  exact ⟨_, rfl, rfl, rfl, rfl, h4⟩
set_option maxRecDepth 100000 in
set_option maxHeartbeats 4000000 in
theorem w_step (x0 : Int32) (I : pI) (J : pJ) {post : Int32 → pI → pJ → Prop} (hM : pMet yX5_step (pws yX5_step cX5_step 3 (some .int)) { frames := 7, cells := 2, slots := 12, locals := 111 } [.ref 0, .int x0] 84 I J pRs (pOi post)) : pMet yL_step (pwh yL_step cL_step 4 (some .int) [(0, 9, 12, 13), (0, 9, 15, 23)]) { frames := 8, cells := 2, slots := 12, locals := 133 } [.ref 0, .int x0, .ref 83] 84 I J pRs (pOi (fun r I' J' => r = 0 ∧ ∃ v I1 J1, post v I1 J1 ∧ I' = I1 ∧ J' = upJ J1 83 0 v.toInt64)) := by
  refine pMetH_of (by decide) (Nat.le_of_ble_eq_true rfl) ?_
  refine pw_aload_n dL_step_0 rfl ?_
  refine pw_iconst (v := 0) dL_step_1 (by decide) ?_
  refine pw_aload_n dL_step_2 rfl ?_
  refine pw_iload_n dL_step_3 rfl ?_
  refine pw_callVC (ci := 5) (y := yX5_step) (cc := cX5_step) (nL := 3) (ret := (some .int)) (rm := { frames := 7, cells := 2, slots := 12, locals := 111 }) dL_step_4 hM w_L_25 rfl (by decide) (by decide) ⟨by decide, by decide⟩ (by decide) (by decide) rfl (Nat.le_of_ble_eq_true rfl) (fun E n' I' J' P' h => by obtain ⟨_, h, -⟩ := h; cases h) (fun r n' I' J' P' h => ?_)
  obtain ⟨x, h1, rfl, rfl, h2⟩ := h
  cases h1
  refine pw_i2l dL_step_7 ?_
  refine pw_last dL_step_8 rfl (by decide) (by decide) (vp_in_nI (n := 0) (N := 1) (by decide) (by decide)) ?_
  refine pw_goto (tgt := 18) dL_step_9 (by decide) ?_
  refine pw_iconst (v := 0) dL_step_18 (by decide) ?_
  refine pw_iret dL_step_19 rfl rfl (by decide) (by decide) ?_
  exact ⟨_, rfl, rfl, rfl, rfl, _, _, _, h2, rfl, rfl⟩
set_option maxRecDepth 100000 in
set_option maxHeartbeats 4000000 in
theorem w_step_A (x0 : Int32) (I : pI) (J : pJ) {post : pI → pJ → Prop} (hM : pMet yX5_step (pws yX5_step cX5_step 3 (some .int)) { frames := 7, cells := 2, slots := 12, locals := 111 } [.ref 0, .int x0] 84 I J pRs (pOx eA post)) : pMet yL_step (pwh yL_step cL_step 4 (some .int) [(0, 9, 12, 13), (0, 9, 15, 23)]) { frames := 8, cells := 2, slots := 12, locals := 133 } [.ref 0, .int x0, .ref 83] 84 I J pRs (pOi (fun r I' J' => r = 1 ∧ post I' J')) := by
  refine pMetH_of (by decide) (Nat.le_of_ble_eq_true rfl) ?_
  refine pw_aload_n dL_step_0 rfl ?_
  refine pw_iconst (v := 0) dL_step_1 (by decide) ?_
  refine pw_aload_n dL_step_2 rfl ?_
  refine pw_iload_n dL_step_3 rfl ?_
  refine pw_callVC (ci := 5) (y := yX5_step) (cc := cX5_step) (nL := 3) (ret := (some .int)) (rm := { frames := 7, cells := 2, slots := 12, locals := 111 }) dL_step_4 hM w_L_25 rfl (by decide) (by decide) ⟨by decide, by decide⟩ (by decide) (by decide) rfl (Nat.le_of_ble_eq_true rfl) (fun E n' I' J' P' h => ?_) (fun r n' I' J' P' h => by obtain ⟨h, -⟩ := h; cases h)
  obtain ⟨h1, rfl, rfl, h4⟩ := h
  cases h1
  refine ⟨[], (0, 9, 12, 13), [(0, 9, 15, 23)], rfl, (fun z hz => by cases hz), ⟨by decide, by decide⟩, by decide, wl_13, od_A, Or.inl ⟨3, dL_step_12, by decide, ?_⟩⟩
  refine pw_iconst (v := 1) dL_step_13 (by decide) ?_
  refine pw_iret dL_step_14 rfl rfl (by decide) (by decide) ?_
  exact ⟨_, rfl, rfl, rfl, rfl, h4⟩
set_option maxRecDepth 100000 in
set_option maxHeartbeats 4000000 in
theorem w_step_S (x0 : Int32) (I : pI) (J : pJ) {post : pI → pJ → Prop} (hM : pMet yX5_step (pws yX5_step cX5_step 3 (some .int)) { frames := 7, cells := 2, slots := 12, locals := 111 } [.ref 0, .int x0] 84 I J pRs (pOx eS post)) : pMet yL_step (pwh yL_step cL_step 4 (some .int) [(0, 9, 12, 13), (0, 9, 15, 23)]) { frames := 8, cells := 2, slots := 12, locals := 133 } [.ref 0, .int x0, .ref 83] 84 I J pRs (pOi (fun r I' J' => r = 2 ∧ post I' J')) := by
  refine pMetH_of (by decide) (Nat.le_of_ble_eq_true rfl) ?_
  refine pw_aload_n dL_step_0 rfl ?_
  refine pw_iconst (v := 0) dL_step_1 (by decide) ?_
  refine pw_aload_n dL_step_2 rfl ?_
  refine pw_iload_n dL_step_3 rfl ?_
  refine pw_callVC (ci := 5) (y := yX5_step) (cc := cX5_step) (nL := 3) (ret := (some .int)) (rm := { frames := 7, cells := 2, slots := 12, locals := 111 }) dL_step_4 hM w_L_25 rfl (by decide) (by decide) ⟨by decide, by decide⟩ (by decide) (by decide) rfl (Nat.le_of_ble_eq_true rfl) (fun E n' I' J' P' h => ?_) (fun r n' I' J' P' h => by obtain ⟨h, -⟩ := h; cases h)
  obtain ⟨h1, rfl, rfl, h4⟩ := h
  cases h1
  refine ⟨[(0, 9, 12, 13)], (0, 9, 15, 23), [], rfl, (fun z hz => by rw [List.mem_singleton.mp hz]; exact ⟨by decide, eA, wl_13, no_S⟩), ⟨by decide, by decide⟩, by decide, wl_23, od_S, Or.inl ⟨3, dL_step_15, by decide, ?_⟩⟩
  refine pw_iconst (v := 2) dL_step_16 (by decide) ?_
  refine pw_iret dL_step_17 rfl rfl (by decide) (by decide) ?_
  exact ⟨_, rfl, rfl, rfl, rfl, h4⟩
set_option maxRecDepth 100000 in
set_option maxHeartbeats 4000000 in
theorem w_leave (x0 : Int32) (I : pI) (J : pJ) {post : pI → pJ → Prop} (hM : pMet yX5_leave (pws yX5_leave cX5_leave 3 none) { frames := 7, cells := 2, slots := 12, locals := 111 } [.ref 0, .int x0] 84 I J pRs (pOv post)) : pMet yL_leave (pwh yL_leave cL_leave 3 (some .int) [(0, 5, 8, 13), (0, 5, 11, 23)]) { frames := 8, cells := 2, slots := 12, locals := 133 } [.ref 0, .int x0] 84 I J pRs (pOi (fun r I' J' => r = 0 ∧ post I' J')) := by
  refine pMetH_of (by decide) (Nat.le_of_ble_eq_true rfl) ?_
  refine pw_aload_n dL_leave_0 rfl ?_
  refine pw_iload_n dL_leave_1 rfl ?_
  refine pw_callVC (ci := 5) (y := yX5_leave) (cc := cX5_leave) (nL := 3) (ret := none) (rm := { frames := 7, cells := 2, slots := 12, locals := 111 }) dL_leave_2 hM w_L_29 rfl (by decide) (by decide) ⟨by decide, by decide⟩ (by decide) (by decide) rfl (Nat.le_of_ble_eq_true rfl) (fun E n' I' J' P' h => by obtain ⟨h, -⟩ := h; cases h) (fun r n' I' J' P' h => ?_)
  obtain ⟨h1, rfl, rfl, h2⟩ := h
  cases h1
  refine pw_goto (tgt := 14) dL_leave_5 (by decide) ?_
  refine pw_iconst (v := 0) dL_leave_14 (by decide) ?_
  refine pw_iret dL_leave_15 rfl rfl (by decide) (by decide) ?_
  exact ⟨_, rfl, rfl, rfl, rfl, h2⟩
set_option maxRecDepth 100000 in
set_option maxHeartbeats 4000000 in
theorem w_leave_A (x0 : Int32) (I : pI) (J : pJ) {post : pI → pJ → Prop} (hM : pMet yX5_leave (pws yX5_leave cX5_leave 3 none) { frames := 7, cells := 2, slots := 12, locals := 111 } [.ref 0, .int x0] 84 I J pRs (pOx eA post)) : pMet yL_leave (pwh yL_leave cL_leave 3 (some .int) [(0, 5, 8, 13), (0, 5, 11, 23)]) { frames := 8, cells := 2, slots := 12, locals := 133 } [.ref 0, .int x0] 84 I J pRs (pOi (fun r I' J' => r = 1 ∧ post I' J')) := by
  refine pMetH_of (by decide) (Nat.le_of_ble_eq_true rfl) ?_
  refine pw_aload_n dL_leave_0 rfl ?_
  refine pw_iload_n dL_leave_1 rfl ?_
  refine pw_callVC (ci := 5) (y := yX5_leave) (cc := cX5_leave) (nL := 3) (ret := none) (rm := { frames := 7, cells := 2, slots := 12, locals := 111 }) dL_leave_2 hM w_L_29 rfl (by decide) (by decide) ⟨by decide, by decide⟩ (by decide) (by decide) rfl (Nat.le_of_ble_eq_true rfl) (fun E n' I' J' P' h => ?_) (fun r n' I' J' P' h => by obtain ⟨h, -⟩ := h; cases h)
  obtain ⟨h1, rfl, rfl, h4⟩ := h
  cases h1
  refine ⟨[], (0, 5, 8, 13), [(0, 5, 11, 23)], rfl, (fun z hz => by cases hz), ⟨by decide, by decide⟩, by decide, wl_13, od_A, Or.inl ⟨2, dL_leave_8, by decide, ?_⟩⟩
  refine pw_iconst (v := 1) dL_leave_9 (by decide) ?_
  refine pw_iret dL_leave_10 rfl rfl (by decide) (by decide) ?_
  exact ⟨_, rfl, rfl, rfl, rfl, h4⟩
set_option maxRecDepth 100000 in
set_option maxHeartbeats 4000000 in
theorem w_leave_S (x0 : Int32) (I : pI) (J : pJ) {post : pI → pJ → Prop} (hM : pMet yX5_leave (pws yX5_leave cX5_leave 3 none) { frames := 7, cells := 2, slots := 12, locals := 111 } [.ref 0, .int x0] 84 I J pRs (pOx eS post)) : pMet yL_leave (pwh yL_leave cL_leave 3 (some .int) [(0, 5, 8, 13), (0, 5, 11, 23)]) { frames := 8, cells := 2, slots := 12, locals := 133 } [.ref 0, .int x0] 84 I J pRs (pOi (fun r I' J' => r = 2 ∧ post I' J')) := by
  refine pMetH_of (by decide) (Nat.le_of_ble_eq_true rfl) ?_
  refine pw_aload_n dL_leave_0 rfl ?_
  refine pw_iload_n dL_leave_1 rfl ?_
  refine pw_callVC (ci := 5) (y := yX5_leave) (cc := cX5_leave) (nL := 3) (ret := none) (rm := { frames := 7, cells := 2, slots := 12, locals := 111 }) dL_leave_2 hM w_L_29 rfl (by decide) (by decide) ⟨by decide, by decide⟩ (by decide) (by decide) rfl (Nat.le_of_ble_eq_true rfl) (fun E n' I' J' P' h => ?_) (fun r n' I' J' P' h => by obtain ⟨h, -⟩ := h; cases h)
  obtain ⟨h1, rfl, rfl, h4⟩ := h
  cases h1
  refine ⟨[(0, 5, 8, 13)], (0, 5, 11, 23), [], rfl, (fun z hz => by rw [List.mem_singleton.mp hz]; exact ⟨by decide, eA, wl_13, no_S⟩), ⟨by decide, by decide⟩, by decide, wl_23, od_S, Or.inl ⟨2, dL_leave_11, by decide, ?_⟩⟩
  refine pw_iconst (v := 2) dL_leave_12 (by decide) ?_
  refine pw_iret dL_leave_13 rfl rfl (by decide) (by decide) ?_
  exact ⟨_, rfl, rfl, rfl, rfl, h4⟩
set_option maxRecDepth 100000 in
set_option maxHeartbeats 4000000 in
theorem w_word (x0 : Int32) (I : pI) (J : pJ) {post : Int32 → pI → pJ → Prop} (hM : pMet yX5_word (pws yX5_word cX5_word 2 (some .int)) { frames := 6, cells := 1, slots := 6, locals := 90 } [.ref 0, .int x0] 84 I J pRs (pOi post)) : pMet yL_word (pwh yL_word cL_word 4 (some .int) [(0, 9, 12, 35)]) { frames := 7, cells := 1, slots := 6, locals := 111 } [.ref 0, .int x0, .ref 83] 84 I J pRs (pOi (fun r I' J' => r = 0 ∧ ∃ v I1 J1, post v I1 J1 ∧ I' = I1 ∧ J' = upJ J1 83 0 v.toInt64)) := by
  refine pMetH_of (by decide) (Nat.le_of_ble_eq_true rfl) ?_
  refine pw_aload_n dL_word_0 rfl ?_
  refine pw_iconst (v := 0) dL_word_1 (by decide) ?_
  refine pw_aload_n dL_word_2 rfl ?_
  refine pw_iload_n dL_word_3 rfl ?_
  refine pw_callVC (ci := 5) (y := yX5_word) (cc := cX5_word) (nL := 2) (ret := (some .int)) (rm := { frames := 6, cells := 1, slots := 6, locals := 90 }) dL_word_4 hM w_L_32 rfl (by decide) (by decide) ⟨by decide, by decide⟩ (by decide) (by decide) rfl (Nat.le_of_ble_eq_true rfl) (fun E n' I' J' P' h => by obtain ⟨_, h, -⟩ := h; cases h) (fun r n' I' J' P' h => ?_)
  obtain ⟨x, h1, rfl, rfl, h2⟩ := h
  cases h1
  refine pw_i2l dL_word_7 ?_
  refine pw_last dL_word_8 rfl (by decide) (by decide) (vp_in_nI (n := 0) (N := 1) (by decide) (by decide)) ?_
  refine pw_goto (tgt := 15) dL_word_9 (by decide) ?_
  refine pw_iconst (v := 0) dL_word_15 (by decide) ?_
  refine pw_iret dL_word_16 rfl rfl (by decide) (by decide) ?_
  exact ⟨_, rfl, rfl, rfl, rfl, _, _, _, h2, rfl, rfl⟩
set_option maxRecDepth 100000 in
set_option maxHeartbeats 4000000 in
theorem w_word_B (x0 : Int32) (I : pI) (J : pJ) {post : pI → pJ → Prop} (hM : pMet yX5_word (pws yX5_word cX5_word 2 (some .int)) { frames := 6, cells := 1, slots := 6, locals := 90 } [.ref 0, .int x0] 84 I J pRs (pOx eB post)) : pMet yL_word (pwh yL_word cL_word 4 (some .int) [(0, 9, 12, 35)]) { frames := 7, cells := 1, slots := 6, locals := 111 } [.ref 0, .int x0, .ref 83] 84 I J pRs (pOi (fun r I' J' => r = 1 ∧ post I' J')) := by
  refine pMetH_of (by decide) (Nat.le_of_ble_eq_true rfl) ?_
  refine pw_aload_n dL_word_0 rfl ?_
  refine pw_iconst (v := 0) dL_word_1 (by decide) ?_
  refine pw_aload_n dL_word_2 rfl ?_
  refine pw_iload_n dL_word_3 rfl ?_
  refine pw_callVC (ci := 5) (y := yX5_word) (cc := cX5_word) (nL := 2) (ret := (some .int)) (rm := { frames := 6, cells := 1, slots := 6, locals := 90 }) dL_word_4 hM w_L_32 rfl (by decide) (by decide) ⟨by decide, by decide⟩ (by decide) (by decide) rfl (Nat.le_of_ble_eq_true rfl) (fun E n' I' J' P' h => ?_) (fun r n' I' J' P' h => by obtain ⟨h, -⟩ := h; cases h)
  obtain ⟨h1, rfl, rfl, h4⟩ := h
  cases h1
  refine ⟨[], (0, 9, 12, 35), [], rfl, (fun z hz => by cases hz), ⟨by decide, by decide⟩, by decide, wl_35, od_B, Or.inl ⟨3, dL_word_12, by decide, ?_⟩⟩
  refine pw_iconst (v := 1) dL_word_13 (by decide) ?_
  refine pw_iret dL_word_14 rfl rfl (by decide) (by decide) ?_
  exact ⟨_, rfl, rfl, rfl, rfl, h4⟩
set_option maxRecDepth 100000 in
set_option maxHeartbeats 4000000 in
theorem w_register (x0 x1 : Int32) (I : pI) (J : pJ) {post : Int32 → pI → pJ → Prop} (hM : pMet yX5_register (pws yX5_register cX5_register 4 (some .int)) { frames := 7, cells := 2, slots := 12, locals := 111 } [.ref 0, .int x0, .int x1] 84 I J pRs (pOi post)) : pMet yL_register (pwh yL_register cL_register 5 (some .int) [(0, 10, 13, 13), (0, 10, 17, 35)]) { frames := 8, cells := 2, slots := 12, locals := 134 } [.ref 0, .int x0, .int x1, .ref 83] 84 I J pRs (pOi (fun r I' J' => r = 0 ∧ ∃ v I1 J1, post v I1 J1 ∧ I' = I1 ∧ J' = upJ J1 83 0 v.toInt64)) := by
  refine pMetH_of (by decide) (Nat.le_of_ble_eq_true rfl) ?_
  refine pw_aload_n dL_register_0 rfl ?_
  refine pw_iconst (v := 0) dL_register_1 (by decide) ?_
  refine pw_aload_n dL_register_2 rfl ?_
  refine pw_iload_n dL_register_3 rfl ?_
  refine pw_iload_n dL_register_4 rfl ?_
  refine pw_callVC (ci := 5) (y := yX5_register) (cc := cX5_register) (nL := 4) (ret := (some .int)) (rm := { frames := 7, cells := 2, slots := 12, locals := 111 }) dL_register_5 hM w_L_37 rfl (by decide) (by decide) ⟨by decide, by decide⟩ (by decide) (by decide) rfl (Nat.le_of_ble_eq_true rfl) (fun E n' I' J' P' h => by obtain ⟨_, h, -⟩ := h; cases h) (fun r n' I' J' P' h => ?_)
  obtain ⟨x, h1, rfl, rfl, h2⟩ := h
  cases h1
  refine pw_i2l dL_register_8 ?_
  refine pw_last dL_register_9 rfl (by decide) (by decide) (vp_in_nI (n := 0) (N := 1) (by decide) (by decide)) ?_
  refine pw_goto (tgt := 21) dL_register_10 (by decide) ?_
  refine pw_iconst (v := 0) dL_register_21 (by decide) ?_
  refine pw_iret dL_register_22 rfl rfl (by decide) (by decide) ?_
  exact ⟨_, rfl, rfl, rfl, rfl, _, _, _, h2, rfl, rfl⟩
set_option maxRecDepth 100000 in
set_option maxHeartbeats 4000000 in
theorem w_register_A (x0 x1 : Int32) (I : pI) (J : pJ) {post : pI → pJ → Prop} (hM : pMet yX5_register (pws yX5_register cX5_register 4 (some .int)) { frames := 7, cells := 2, slots := 12, locals := 111 } [.ref 0, .int x0, .int x1] 84 I J pRs (pOx eA post)) : pMet yL_register (pwh yL_register cL_register 5 (some .int) [(0, 10, 13, 13), (0, 10, 17, 35)]) { frames := 8, cells := 2, slots := 12, locals := 134 } [.ref 0, .int x0, .int x1, .ref 83] 84 I J pRs (pOi (fun r I' J' => r = 1 ∧ post I' J')) := by
  refine pMetH_of (by decide) (Nat.le_of_ble_eq_true rfl) ?_
  refine pw_aload_n dL_register_0 rfl ?_
  refine pw_iconst (v := 0) dL_register_1 (by decide) ?_
  refine pw_aload_n dL_register_2 rfl ?_
  refine pw_iload_n dL_register_3 rfl ?_
  refine pw_iload_n dL_register_4 rfl ?_
  refine pw_callVC (ci := 5) (y := yX5_register) (cc := cX5_register) (nL := 4) (ret := (some .int)) (rm := { frames := 7, cells := 2, slots := 12, locals := 111 }) dL_register_5 hM w_L_37 rfl (by decide) (by decide) ⟨by decide, by decide⟩ (by decide) (by decide) rfl (Nat.le_of_ble_eq_true rfl) (fun E n' I' J' P' h => ?_) (fun r n' I' J' P' h => by obtain ⟨h, -⟩ := h; cases h)
  obtain ⟨h1, rfl, rfl, h4⟩ := h
  cases h1
  refine ⟨[], (0, 10, 13, 13), [(0, 10, 17, 35)], rfl, (fun z hz => by cases hz), ⟨by decide, by decide⟩, by decide, wl_13, od_A, Or.inr ⟨4, dL_register_13, by decide, ?_⟩⟩
  refine pw_iconst (v := 1) dL_register_15 (by decide) ?_
  refine pw_iret dL_register_16 rfl rfl (by decide) (by decide) ?_
  exact ⟨_, rfl, rfl, rfl, rfl, h4⟩
set_option maxRecDepth 100000 in
set_option maxHeartbeats 4000000 in
theorem w_register_B (x0 x1 : Int32) (I : pI) (J : pJ) {post : pI → pJ → Prop} (hM : pMet yX5_register (pws yX5_register cX5_register 4 (some .int)) { frames := 7, cells := 2, slots := 12, locals := 111 } [.ref 0, .int x0, .int x1] 84 I J pRs (pOx eB post)) : pMet yL_register (pwh yL_register cL_register 5 (some .int) [(0, 10, 13, 13), (0, 10, 17, 35)]) { frames := 8, cells := 2, slots := 12, locals := 134 } [.ref 0, .int x0, .int x1, .ref 83] 84 I J pRs (pOi (fun r I' J' => r = 2 ∧ post I' J')) := by
  refine pMetH_of (by decide) (Nat.le_of_ble_eq_true rfl) ?_
  refine pw_aload_n dL_register_0 rfl ?_
  refine pw_iconst (v := 0) dL_register_1 (by decide) ?_
  refine pw_aload_n dL_register_2 rfl ?_
  refine pw_iload_n dL_register_3 rfl ?_
  refine pw_iload_n dL_register_4 rfl ?_
  refine pw_callVC (ci := 5) (y := yX5_register) (cc := cX5_register) (nL := 4) (ret := (some .int)) (rm := { frames := 7, cells := 2, slots := 12, locals := 111 }) dL_register_5 hM w_L_37 rfl (by decide) (by decide) ⟨by decide, by decide⟩ (by decide) (by decide) rfl (Nat.le_of_ble_eq_true rfl) (fun E n' I' J' P' h => ?_) (fun r n' I' J' P' h => by obtain ⟨h, -⟩ := h; cases h)
  obtain ⟨h1, rfl, rfl, h4⟩ := h
  cases h1
  refine ⟨[(0, 10, 13, 13)], (0, 10, 17, 35), [], rfl, (fun z hz => by rw [List.mem_singleton.mp hz]; exact ⟨by decide, eA, wl_13, no_B⟩), ⟨by decide, by decide⟩, by decide, wl_35, od_B, Or.inr ⟨4, dL_register_17, by decide, ?_⟩⟩
  refine pw_iconst (v := 2) dL_register_19 (by decide) ?_
  refine pw_iret dL_register_20 rfl rfl (by decide) (by decide) ?_
  exact ⟨_, rfl, rfl, rfl, rfl, h4⟩
set_option maxRecDepth 100000 in
set_option maxHeartbeats 4000000 in
theorem w_about (x0 x1 : Int32) (I : pI) (J : pJ) {post : Int32 → pI → pJ → Prop} (hM : pMet yX5_about (pws yX5_about cX5_about 4 (some .int)) { frames := 7, cells := 2, slots := 12, locals := 111 } [.ref 0, .int x0, .int x1] 84 I J pRs (pOi post)) : pMet yL_about (pwh yL_about cL_about 5 (some .int) [(0, 10, 13, 13)]) { frames := 8, cells := 2, slots := 12, locals := 134 } [.ref 0, .int x0, .int x1, .ref 83] 84 I J pRs (pOi (fun r I' J' => r = 0 ∧ ∃ v I1 J1, post v I1 J1 ∧ I' = I1 ∧ J' = upJ J1 83 0 v.toInt64)) := by
  refine pMetH_of (by decide) (Nat.le_of_ble_eq_true rfl) ?_
  refine pw_aload_n dL_about_0 rfl ?_
  refine pw_iconst (v := 0) dL_about_1 (by decide) ?_
  refine pw_aload_n dL_about_2 rfl ?_
  refine pw_iload_n dL_about_3 rfl ?_
  refine pw_iload_n dL_about_4 rfl ?_
  refine pw_callVC (ci := 5) (y := yX5_about) (cc := cX5_about) (nL := 4) (ret := (some .int)) (rm := { frames := 7, cells := 2, slots := 12, locals := 111 }) dL_about_5 hM w_L_41 rfl (by decide) (by decide) ⟨by decide, by decide⟩ (by decide) (by decide) rfl (Nat.le_of_ble_eq_true rfl) (fun E n' I' J' P' h => by obtain ⟨_, h, -⟩ := h; cases h) (fun r n' I' J' P' h => ?_)
  obtain ⟨x, h1, rfl, rfl, h2⟩ := h
  cases h1
  refine pw_i2l dL_about_8 ?_
  refine pw_last dL_about_9 rfl (by decide) (by decide) (vp_in_nI (n := 0) (N := 1) (by decide) (by decide)) ?_
  refine pw_goto (tgt := 17) dL_about_10 (by decide) ?_
  refine pw_iconst (v := 0) dL_about_17 (by decide) ?_
  refine pw_iret dL_about_18 rfl rfl (by decide) (by decide) ?_
  exact ⟨_, rfl, rfl, rfl, rfl, _, _, _, h2, rfl, rfl⟩
set_option maxRecDepth 100000 in
set_option maxHeartbeats 4000000 in
theorem w_about_A (x0 x1 : Int32) (I : pI) (J : pJ) {post : pI → pJ → Prop} (hM : pMet yX5_about (pws yX5_about cX5_about 4 (some .int)) { frames := 7, cells := 2, slots := 12, locals := 111 } [.ref 0, .int x0, .int x1] 84 I J pRs (pOx eA post)) : pMet yL_about (pwh yL_about cL_about 5 (some .int) [(0, 10, 13, 13)]) { frames := 8, cells := 2, slots := 12, locals := 134 } [.ref 0, .int x0, .int x1, .ref 83] 84 I J pRs (pOi (fun r I' J' => r = 1 ∧ post I' J')) := by
  refine pMetH_of (by decide) (Nat.le_of_ble_eq_true rfl) ?_
  refine pw_aload_n dL_about_0 rfl ?_
  refine pw_iconst (v := 0) dL_about_1 (by decide) ?_
  refine pw_aload_n dL_about_2 rfl ?_
  refine pw_iload_n dL_about_3 rfl ?_
  refine pw_iload_n dL_about_4 rfl ?_
  refine pw_callVC (ci := 5) (y := yX5_about) (cc := cX5_about) (nL := 4) (ret := (some .int)) (rm := { frames := 7, cells := 2, slots := 12, locals := 111 }) dL_about_5 hM w_L_41 rfl (by decide) (by decide) ⟨by decide, by decide⟩ (by decide) (by decide) rfl (Nat.le_of_ble_eq_true rfl) (fun E n' I' J' P' h => ?_) (fun r n' I' J' P' h => by obtain ⟨h, -⟩ := h; cases h)
  obtain ⟨h1, rfl, rfl, h4⟩ := h
  cases h1
  refine ⟨[], (0, 10, 13, 13), [], rfl, (fun z hz => by cases hz), ⟨by decide, by decide⟩, by decide, wl_13, od_A, Or.inr ⟨4, dL_about_13, by decide, ?_⟩⟩
  refine pw_iconst (v := 1) dL_about_15 (by decide) ?_
  refine pw_iret dL_about_16 rfl rfl (by decide) (by decide) ?_
  exact ⟨_, rfl, rfl, rfl, rfl, h4⟩
set_option maxRecDepth 100000 in
set_option maxHeartbeats 4000000 in
theorem w_run (x0 x1 : Int32) (I : pI) (J : pJ) {post : Int32 → pI → pJ → Prop} (hM : pMet yX5_run (pws yX5_run cX5_run 7 (some .int)) { frames := 6, cells := 1, slots := 6, locals := 98 } [.ref 0, .int x0, .int x1] 84 I J pRs (pOi post)) : pMet yL_run (pwh yL_run cL_run 5 (some .int) [(0, 10, 13, 13)]) { frames := 7, cells := 1, slots := 6, locals := 124 } [.ref 0, .int x0, .int x1, .ref 83] 84 I J pRs (pOi (fun r I' J' => r = 0 ∧ ∃ v I1 J1, post v I1 J1 ∧ I' = I1 ∧ J' = upJ J1 83 0 v.toInt64)) := by
  refine pMetH_of (by decide) (Nat.le_of_ble_eq_true rfl) ?_
  refine pw_aload_n dL_run_0 rfl ?_
  refine pw_iconst (v := 0) dL_run_1 (by decide) ?_
  refine pw_aload_n dL_run_2 rfl ?_
  refine pw_iload_n dL_run_3 rfl ?_
  refine pw_iload_n dL_run_4 rfl ?_
  refine pw_callVC (ci := 5) (y := yX5_run) (cc := cX5_run) (nL := 7) (ret := (some .int)) (rm := { frames := 6, cells := 1, slots := 6, locals := 98 }) dL_run_5 hM w_L_44 rfl (by decide) (by decide) ⟨by decide, by decide⟩ (by decide) (by decide) rfl (Nat.le_of_ble_eq_true rfl) (fun E n' I' J' P' h => by obtain ⟨_, h, -⟩ := h; cases h) (fun r n' I' J' P' h => ?_)
  obtain ⟨x, h1, rfl, rfl, h2⟩ := h
  cases h1
  refine pw_i2l dL_run_8 ?_
  refine pw_last dL_run_9 rfl (by decide) (by decide) (vp_in_nI (n := 0) (N := 1) (by decide) (by decide)) ?_
  refine pw_goto (tgt := 17) dL_run_10 (by decide) ?_
  refine pw_iconst (v := 0) dL_run_17 (by decide) ?_
  refine pw_iret dL_run_18 rfl rfl (by decide) (by decide) ?_
  exact ⟨_, rfl, rfl, rfl, rfl, _, _, _, h2, rfl, rfl⟩
set_option maxRecDepth 100000 in
set_option maxHeartbeats 4000000 in
theorem w_run_A (x0 x1 : Int32) (I : pI) (J : pJ) {post : pI → pJ → Prop} (hM : pMet yX5_run (pws yX5_run cX5_run 7 (some .int)) { frames := 6, cells := 1, slots := 6, locals := 98 } [.ref 0, .int x0, .int x1] 84 I J pRs (pOx eA post)) : pMet yL_run (pwh yL_run cL_run 5 (some .int) [(0, 10, 13, 13)]) { frames := 7, cells := 1, slots := 6, locals := 124 } [.ref 0, .int x0, .int x1, .ref 83] 84 I J pRs (pOi (fun r I' J' => r = 1 ∧ post I' J')) := by
  refine pMetH_of (by decide) (Nat.le_of_ble_eq_true rfl) ?_
  refine pw_aload_n dL_run_0 rfl ?_
  refine pw_iconst (v := 0) dL_run_1 (by decide) ?_
  refine pw_aload_n dL_run_2 rfl ?_
  refine pw_iload_n dL_run_3 rfl ?_
  refine pw_iload_n dL_run_4 rfl ?_
  refine pw_callVC (ci := 5) (y := yX5_run) (cc := cX5_run) (nL := 7) (ret := (some .int)) (rm := { frames := 6, cells := 1, slots := 6, locals := 98 }) dL_run_5 hM w_L_44 rfl (by decide) (by decide) ⟨by decide, by decide⟩ (by decide) (by decide) rfl (Nat.le_of_ble_eq_true rfl) (fun E n' I' J' P' h => ?_) (fun r n' I' J' P' h => by obtain ⟨h, -⟩ := h; cases h)
  obtain ⟨h1, rfl, rfl, h4⟩ := h
  cases h1
  refine ⟨[], (0, 10, 13, 13), [], rfl, (fun z hz => by cases hz), ⟨by decide, by decide⟩, by decide, wl_13, od_A, Or.inr ⟨4, dL_run_13, by decide, ?_⟩⟩
  refine pw_iconst (v := 1) dL_run_15 (by decide) ?_
  refine pw_iret dL_run_16 rfl rfl (by decide) (by decide) ?_
  exact ⟨_, rfl, rfl, rfl, rfl, h4⟩
set_option maxRecDepth 100000 in
set_option maxHeartbeats 4000000 in
theorem w_judge (x0 : Int32) (I : pI) (J : pJ) {post : Int32 → pI → pJ → Prop} (hM : pMet yX5_judge (pws yX5_judge cX5_judge 2 (some .int)) { frames := 6, cells := 1, slots := 6, locals := 150 } [.ref 0, .int x0] 84 I J pRs (pOi post)) : pMet yL_judge (pwh yL_judge cL_judge 4 (some .int) [(0, 9, 12, 13)]) { frames := 7, cells := 1, slots := 6, locals := 171 } [.ref 0, .int x0, .ref 83] 84 I J pRs (pOi (fun r I' J' => r = 0 ∧ ∃ v I1 J1, post v I1 J1 ∧ I' = I1 ∧ J' = upJ J1 83 0 v.toInt64)) := by
  refine pMetH_of (by decide) (Nat.le_of_ble_eq_true rfl) ?_
  refine pw_aload_n dL_judge_0 rfl ?_
  refine pw_iconst (v := 0) dL_judge_1 (by decide) ?_
  refine pw_aload_n dL_judge_2 rfl ?_
  refine pw_iload_n dL_judge_3 rfl ?_
  refine pw_callVC (ci := 5) (y := yX5_judge) (cc := cX5_judge) (nL := 2) (ret := (some .int)) (rm := { frames := 6, cells := 1, slots := 6, locals := 150 }) dL_judge_4 hM w_L_47 rfl (by decide) (by decide) ⟨by decide, by decide⟩ (by decide) (by decide) rfl (Nat.le_of_ble_eq_true rfl) (fun E n' I' J' P' h => by obtain ⟨_, h, -⟩ := h; cases h) (fun r n' I' J' P' h => ?_)
  obtain ⟨x, h1, rfl, rfl, h2⟩ := h
  cases h1
  refine pw_i2l dL_judge_7 ?_
  refine pw_last dL_judge_8 rfl (by decide) (by decide) (vp_in_nI (n := 0) (N := 1) (by decide) (by decide)) ?_
  refine pw_goto (tgt := 15) dL_judge_9 (by decide) ?_
  refine pw_iconst (v := 0) dL_judge_15 (by decide) ?_
  refine pw_iret dL_judge_16 rfl rfl (by decide) (by decide) ?_
  exact ⟨_, rfl, rfl, rfl, rfl, _, _, _, h2, rfl, rfl⟩
set_option maxRecDepth 100000 in
set_option maxHeartbeats 4000000 in
theorem w_judge_A (x0 : Int32) (I : pI) (J : pJ) {post : pI → pJ → Prop} (hM : pMet yX5_judge (pws yX5_judge cX5_judge 2 (some .int)) { frames := 6, cells := 1, slots := 6, locals := 150 } [.ref 0, .int x0] 84 I J pRs (pOx eA post)) : pMet yL_judge (pwh yL_judge cL_judge 4 (some .int) [(0, 9, 12, 13)]) { frames := 7, cells := 1, slots := 6, locals := 171 } [.ref 0, .int x0, .ref 83] 84 I J pRs (pOi (fun r I' J' => r = 1 ∧ post I' J')) := by
  refine pMetH_of (by decide) (Nat.le_of_ble_eq_true rfl) ?_
  refine pw_aload_n dL_judge_0 rfl ?_
  refine pw_iconst (v := 0) dL_judge_1 (by decide) ?_
  refine pw_aload_n dL_judge_2 rfl ?_
  refine pw_iload_n dL_judge_3 rfl ?_
  refine pw_callVC (ci := 5) (y := yX5_judge) (cc := cX5_judge) (nL := 2) (ret := (some .int)) (rm := { frames := 6, cells := 1, slots := 6, locals := 150 }) dL_judge_4 hM w_L_47 rfl (by decide) (by decide) ⟨by decide, by decide⟩ (by decide) (by decide) rfl (Nat.le_of_ble_eq_true rfl) (fun E n' I' J' P' h => ?_) (fun r n' I' J' P' h => by obtain ⟨h, -⟩ := h; cases h)
  obtain ⟨h1, rfl, rfl, h4⟩ := h
  cases h1
  refine ⟨[], (0, 9, 12, 13), [], rfl, (fun z hz => by cases hz), ⟨by decide, by decide⟩, by decide, wl_13, od_A, Or.inl ⟨3, dL_judge_12, by decide, ?_⟩⟩
  refine pw_iconst (v := 1) dL_judge_13 (by decide) ?_
  refine pw_iret dL_judge_14 rfl rfl (by decide) (by decide) ?_
  exact ⟨_, rfl, rfl, rfl, rfl, h4⟩
set_option maxRecDepth 100000 in
set_option maxHeartbeats 4000000 in
theorem w_trail (x0 : Int32) (I : pI) (J : pJ) {post : Int32 → pI → pJ → Prop} (hM : pMet yX5_trail (pws yX5_trail cX5_trail 2 (some .int)) { frames := 6, cells := 1, slots := 6, locals := 90 } [.ref 0, .int x0] 84 I J pRs (pOi post)) : pMet yL_trail (pwh yL_trail cL_trail 4 (some .int) [(0, 9, 12, 35)]) { frames := 7, cells := 1, slots := 6, locals := 111 } [.ref 0, .int x0, .ref 83] 84 I J pRs (pOi (fun r I' J' => r = 0 ∧ ∃ v I1 J1, post v I1 J1 ∧ I' = I1 ∧ J' = upJ J1 83 0 v.toInt64)) := by
  refine pMetH_of (by decide) (Nat.le_of_ble_eq_true rfl) ?_
  refine pw_aload_n dL_trail_0 rfl ?_
  refine pw_iconst (v := 0) dL_trail_1 (by decide) ?_
  refine pw_aload_n dL_trail_2 rfl ?_
  refine pw_iload_n dL_trail_3 rfl ?_
  refine pw_callVC (ci := 5) (y := yX5_trail) (cc := cX5_trail) (nL := 2) (ret := (some .int)) (rm := { frames := 6, cells := 1, slots := 6, locals := 90 }) dL_trail_4 hM w_L_50 rfl (by decide) (by decide) ⟨by decide, by decide⟩ (by decide) (by decide) rfl (Nat.le_of_ble_eq_true rfl) (fun E n' I' J' P' h => by obtain ⟨_, h, -⟩ := h; cases h) (fun r n' I' J' P' h => ?_)
  obtain ⟨x, h1, rfl, rfl, h2⟩ := h
  cases h1
  refine pw_i2l dL_trail_7 ?_
  refine pw_last dL_trail_8 rfl (by decide) (by decide) (vp_in_nI (n := 0) (N := 1) (by decide) (by decide)) ?_
  refine pw_goto (tgt := 15) dL_trail_9 (by decide) ?_
  refine pw_iconst (v := 0) dL_trail_15 (by decide) ?_
  refine pw_iret dL_trail_16 rfl rfl (by decide) (by decide) ?_
  exact ⟨_, rfl, rfl, rfl, rfl, _, _, _, h2, rfl, rfl⟩
set_option maxRecDepth 100000 in
set_option maxHeartbeats 4000000 in
theorem w_trail_B (x0 : Int32) (I : pI) (J : pJ) {post : pI → pJ → Prop} (hM : pMet yX5_trail (pws yX5_trail cX5_trail 2 (some .int)) { frames := 6, cells := 1, slots := 6, locals := 90 } [.ref 0, .int x0] 84 I J pRs (pOx eB post)) : pMet yL_trail (pwh yL_trail cL_trail 4 (some .int) [(0, 9, 12, 35)]) { frames := 7, cells := 1, slots := 6, locals := 111 } [.ref 0, .int x0, .ref 83] 84 I J pRs (pOi (fun r I' J' => r = 1 ∧ post I' J')) := by
  refine pMetH_of (by decide) (Nat.le_of_ble_eq_true rfl) ?_
  refine pw_aload_n dL_trail_0 rfl ?_
  refine pw_iconst (v := 0) dL_trail_1 (by decide) ?_
  refine pw_aload_n dL_trail_2 rfl ?_
  refine pw_iload_n dL_trail_3 rfl ?_
  refine pw_callVC (ci := 5) (y := yX5_trail) (cc := cX5_trail) (nL := 2) (ret := (some .int)) (rm := { frames := 6, cells := 1, slots := 6, locals := 90 }) dL_trail_4 hM w_L_50 rfl (by decide) (by decide) ⟨by decide, by decide⟩ (by decide) (by decide) rfl (Nat.le_of_ble_eq_true rfl) (fun E n' I' J' P' h => ?_) (fun r n' I' J' P' h => by obtain ⟨h, -⟩ := h; cases h)
  obtain ⟨h1, rfl, rfl, h4⟩ := h
  cases h1
  refine ⟨[], (0, 9, 12, 35), [], rfl, (fun z hz => by cases hz), ⟨by decide, by decide⟩, by decide, wl_35, od_B, Or.inl ⟨3, dL_trail_12, by decide, ?_⟩⟩
  refine pw_iconst (v := 1) dL_trail_13 (by decide) ?_
  refine pw_iret dL_trail_14 rfl rfl (by decide) (by decide) ?_
  exact ⟨_, rfl, rfl, rfl, rfl, h4⟩
