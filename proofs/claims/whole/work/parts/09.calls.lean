/-! calls -/
theorem pPc_blind (V : pEnv) (as : List Value) (n : Nat) (I : pI) (J : pJ) (P : pP) (sz : Nat) : FrameBlind (pPc V as n I J P sz) := by
  intro a U g mk h
  obtain ⟨h1, h2, ⟨h3, h4, h5⟩, h6⟩ := h
  exact ⟨h1, h2, ⟨h3, va_K.moved (u := U) (U := U.calling g mk a) (Vm.Alike.refl U.vm) h4, h5⟩, FX.same (s := U) (U := U.calling g mk a) rfl rfl h6⟩
theorem met_of_vx {l : Launch} {y : MethodName} {ws : List Cond} {rm : Room} {Pc : Array Value → State → Prop} {Qc : Array Value → State → Outcome → State → Prop} {XC : String → State → State → Prop} {mc ms : Nat} {free : Addr → Prop} (h : vx_Met l y ws rm Pc Qc XC mc ms free) (hx : ∀ E st t, ¬ XC E st t) : Met l y ws rm Pc Qc mc ms free := by
  intro p e ha hc hk s m args below hf hap hP hK
  obtain ⟨n, o, h1, h2, h3, h4⟩ := h p e ha hc hk s m args below hf hap hP hK
  refine ⟨n, o, h1, h2, h3, ?_⟩
  rcases h4 with h4 | ⟨q, -, E, ce, L, h5, -⟩
  · exact h4
  · exact absurd h5 (hx _ _ _)
section Rows
variable {M : pT} {Q Q' : pQ} {pc : Nat} {L : List (Nat × Value)} {st : List Value} {n : Nat} {I : pI} {J : pJ} {P : pP} {kc ks : Nat}
theorem pw_pre {V : pEnv} {A : Nat → Prop} {p : Program} {l : Launch} {s : State} {m : MethodId} {args : Array Value} {meth : Method} {c : Code} {H : Heap} {locs : List Loc} {as : List Value} (C : pCx M V A p l s m args meth c) (hP : va_P (pEnv.D V) vwCl (wl V n I J P) H) (hS : va_S A s.heap H locs) (hn : ∀ a, a < n → A (pEnv.b V + a)) (hz : pEnv.b V + n ≤ H.size) :
    ∀ U : State, U.heap = H → s.WarmedH U.vm → pPc V as n I J P H.size (as.map (rv V)).toArray U := by
  obtain ⟨hx, hb, hr, hml, hown, hts, hlo, htb, hK, hA, hF, hst, hE⟩ := id C
  intro U hU hW
  refine ⟨rfl, by rw [hU], ⟨by rw [hU]; exact hP, va_K.moved hW.alike hK, by rw [hU]; exact hz⟩, ?_⟩
  refine FX.call hF hS hW hU (fun q hq h => ?_)
  rcases h with ⟨h1, h2⟩ | h
  · have h3 := hn (q - pEnv.b V) (by omega)
    rwa [Nat.add_sub_cancel' h1] at h3
  · exact absurd (Nat.lt_of_lt_of_le hq hS.1) (Nat.not_lt.mpr h)
theorem pw_run {V : pEnv} {A : Nat → Prop} {p : Program} {l : Launch} {e : Env} {s : State} {m : MethodId} {args : Array Value} {below : List Frame} {meth : Method} {c : Code} {H : Heap} {locs : List Loc} {ls : Array Slot} {aa : Array Value} {st0 : List Value} {mc ms : Nat}
    (C : pCx M V A p l s m args meth c) (hh : pT.hh M = []) (hS : va_S A s.heap H locs) (hn : ∀ a, a < n → A (pEnv.b V + a)) (hl : lv_has ls (pT.nL M) (mL V L))
    (hr : vx_Run p l e (pT.R M) s m args below meth c H locs kc ks mc ms (F0 m pc ls st0) (st.map (rv V)) (pQc V Q' (pA (pEnv.b V) n H.size) aa) (pXC V Q' (pA (pEnv.b V) n H.size)) (pA (pEnv.b V) n H.size))
    (hc : kc + mc ≤ (pT.R M).cells) (hs : ks + ms ≤ (pT.R M).slots)
    (kx : ∀ E n' I' J' P', Q' (.inr E) n' I' J' P' → Q (.inr E) n' I' J' P')
    (kk : ∀ r n' I' J' P', Q' (.inl r) n' I' J' P' → PW M Q (pc + 3) L (r.toList ++ st) n' I' J' P' (kc + mc) (ks + ms)) :
    W p l e (pT.R M) s m args below meth c H locs kc ks (vx_MQ below (pQc V Q A) (pXC V Q A) args s (pT.R M).cells (pT.R M).slots A) (F0 m pc ls st0) := by
  obtain ⟨hx, hb, hr', hml, hown, hts, hlo, htb, hK, hA, hF, hst, hE⟩ := id C
  have hsub : ∀ q, pA (pEnv.b V) n H.size q → A q := by
    intro q h
    rcases h with ⟨h1, h2⟩ | h
    · have h3 := hn (q - pEnv.b V) (by omega)
      rwa [Nat.add_sub_cancel' h1] at h3
    · exact hA q (Nat.le_trans hS.1 h)
  intro T hT X
  rcases hr T hT X with ⟨v, st₀, t, T', L9, h0, X', hL, e1, e2, ⟨⟨r, n', I', J', P', hv, hq, hn', hP', hK', hz'⟩, hF9⟩, go⟩ | ⟨q, st₀, t, T', L9, E, ce, h0, X', hL, e1, e2, ⟨⟨n', I', J', P', hq, hn', hP', hK', hz'⟩, hF9⟩, hce, hcv, hcl, go⟩
  · obtain ⟨k1, k2, k3⟩ := vx_keep h0 e1 hS (fun q _ h => hsub q h) hsub hL hF9
    have hv' : v = r.map (rv V) := Outcome.returned.inj hv
    subst hv'
    have h := kk r n' I' J' P' hq V A p l e s m args below meth c T'.heap (locs ++ L9) ls C (by rw [e1]; exact hP') k3 (fun a h => hsub _ (hn' a h)) (by rw [e1]; exact hz') hl T' rfl X'
    obtain ⟨t2, a1, b1⟩ := h
    refine ⟨t2, go t2 ?_, b1⟩
    have e3 : (r.map (rv V)).toList ++ st.map (rv V) = (r.toList ++ st).map (rv V) := by cases r <;> simp
    rw [e3]
    exact a1
  · obtain ⟨k1, k2, k3⟩ := vx_keep h0 e1 hS (fun q _ h => hsub q h) hsub hL hF9
    have h := vx_out (p := p) (l := l) (e := e) (R := pT.R M) (s := s) (m := m) (args := args) (below := below) (meth := meth) (c := c) (H := T'.heap) (locs := locs ++ L9) (cells := kc + mc) (slots := ks + ms) (free := A) (ls := ls) (rest := st.map (rv V)) (Qc := pQc V Q A) (XC := pXC V Q A) (pc := pc) (E := E) (ce := ce) (q := q) (mc := (pT.R M).cells) (ms := (pT.R M).slots)
      (by rw [htb, hh]; intro x hx; cases hx) hlo (by rw [e1]; exact hce) hcv hcl
      (fun t9 ht9 hW9 => ⟨⟨n', I', J', P', kx _ _ _ _ _ hq, fun a h => hsub _ (hn' a h), by rw [ht9, e1]; exact hP', va_K.moved hW9 hK, by rw [ht9, e1]; exact hz'⟩, k3.F ht9⟩) k3.2.2 hc hs
    obtain ⟨t2, a1, b1⟩ := h T' rfl X'
    exact ⟨t2, go.trans a1, b1⟩
/-- the words of a call: its link, the method itself, the class whose object is called -/
def pWV (own : String) (idx ci : Nat) (y : MethodName) (cc : ByteArray) (nL : Nat) (ret : Option FieldType) (na : Nat) : Bool :=
  pIn (.methodLink own idx y) && (pIn (.instanceMethod y) && (pIn (.selects (pC ci).1 y y) && (pIn (.initialized (pC ci).1) && (pIn (.code y cc nL ret) && (decide (ci < 7) && (decide (y.cls = (pC ci).1) && (decide (y.cls ≠ "java/lang/invoke/MethodHandle" ∧ y.cls ≠ "java/lang/invoke/VarHandle") && decide ((parseMethodDescriptor y.desc).map (fun d => d.parameters.length) = some na))))))))
def pWS (own : String) (idx : Nat) (y : MethodName) (cc : ByteArray) (nL : Nat) (ret : Option FieldType) (na : Nat) : Bool :=
  pIn (.methodLink own idx y) && (pIn (.static y) && (pIn (.initialized y.cls) && (pIn (.code y cc nL ret) && (decide (y.cls ≠ "java/lang/invoke/MethodHandle" ∧ y.cls ≠ "java/lang/invoke/VarHandle") && decide ((parseMethodDescriptor y.desc).map (fun d => d.parameters.length) = some na)))))
def pWN (own : String) (idx : Nat) (y : MethodName) (host : String) (cc : ByteArray) (nL : Nat) (ret : Option FieldType) (na : Nat) : Bool :=
  decide ((own, idx, y, host) ∈ pNest) && (pIn (.static y) && (pIn (.initialized y.cls) && (pIn (.code y cc nL ret) && (decide (y.cls ≠ "java/lang/invoke/MethodHandle" ∧ y.cls ≠ "java/lang/invoke/VarHandle") && decide ((parseMethodDescriptor y.desc).map (fun d => d.parameters.length) = some na)))))
theorem pws_in {y : MethodName} {cc : ByteArray} {nL : Nat} {ret : Option FieldType} (h : pIn (.code y cc nL ret) = true) : ∀ w ∈ pws y cc nL ret, w ∈ pww := by
  intro w hw
  rcases List.mem_cons.mp hw with rfl | hw
  · exact pIn_mem h
  · exact hw
theorem pw_callV {y : MethodName} {cc : ByteArray} {nL : Nat} {ret : Option FieldType} {rm : Room} {as st0 : List Value} {a idx ci : Nat} (hd : decode (pT.cc M) pc = .ok (.invokevirtual idx, 3)) (hM : pMet y (pws y cc nL ret) rm (.ref a :: as) n I J P Q') (hw : pWV (pT.own M) idx ci y cc nL ret as.length = true) (hk : (pS a).1 = ci) (ha : a < n) (hn9 : n ≤ 1000) (hh : pT.hh M = [])
    (hR : rm.frames + 1 ≤ (pT.R M).frames ∧ 8 + (nL + 11) + rm.locals ≤ (pT.R M).locals) (hc : kc + rm.cells ≤ (pT.R M).cells) (hs : ks + rm.slots ≤ (pT.R M).slots) (h0 : st0 = as.reverse ++ .ref a :: st) (h8 : (st.map fun v => v.category).sum ≤ 8)
    (kx : ∀ E n' I' J' P', Q' (.inr E) n' I' J' P' → Q (.inr E) n' I' J' P')
    (kk : ∀ r n' I' J' P', Q' (.inl r) n' I' J' P' → PW M Q (pc + 3) L (r.toList ++ st) n' I' J' P' (kc + rm.cells) (ks + rm.slots)) : PW M Q pc L st0 n I J P kc ks := by
  intro V A p l e s m args below meth c H locs ls C hP hS hn hz hl
  obtain ⟨hx, hb, hr, hml, hown, hts, hlo, htb, hK, hA, hF, hst, hE⟩ := id C
  simp only [pWV, Bool.and_eq_true, decide_eq_true_eq] at hw
  obtain ⟨w1, w2, w3, w4, w5, w6, w7, w8, w9⟩ := hw
  have hG : GoodIn pww (wsV (pT.own M) idx (pC ci).1 y (pws y cc nL ret)) := pww_good (fun _ h => h) (fun w h => by
    rcases List.mem_append.mp h with h | h
    · simp only [List.mem_cons, List.not_mem_nil, or_false] at h
      rcases h with rfl | rfl | rfl | rfl
      · exact pIn_mem w1
      · exact pIn_mem w2
      · exact pIn_mem w3
      · exact pIn_mem w4
    · exact pws_in w5 w h)
  have hrun := vx_runV (p := p) (l := l) (e := e) (R := pT.R M) (below := below) (meth := meth) (H := H) (locs := locs) (cells := kc) (slots := ks) (g := F0 m pc ls (st0.map (rv V))) (b := pEnv.b V + a) (As := as.map (rv V)) (rest := st.map (rv V)) (Ts := pww) ⟨hx, hb, hml, hown, hts⟩ (hM l V H.size hst) (cwV as.length hts hG rfl rfl rfl ⟨w7, w8.1, w8.2, w9⟩ hR)
    ⟨pPc_blind V _ n I J P H.size, va_recv hK hP (pC_at ci w6) (by rw [wl_at V I J P ha, pE_obj hk w6]), by
      have h := pw_pre (as := .ref a :: as) C hP hS hn hz
      intro U hU hW
      have h1 := h U hU hW
      rw [List.map_cons, rv_lt V (by omega)] at h1
      exact h1⟩ rfl (by simp) hl.1 (by
      show st0.map (rv V) = _
      rw [h0]; simp [rv_lt V (show a < 1000 by omega)]) (by
      have e9 : ((st.map (rv V)).map fun v => v.category) = st.map fun v => v.category := by simp [List.map_map, Function.comp_def, rv_cat]
      show 2 * (F0 m pc ls (st0.map (rv V))).monitorRoom + _ ≤ 8
      rw [e9]; simpa [JFrame.monitorRoom] using h8) hd ⟨hc, hs⟩
  exact pw_run C hh hS hn hl hrun hc hs kx kk
theorem pw_callS {y : MethodName} {cc : ByteArray} {nL : Nat} {ret : Option FieldType} {rm : Room} {as st0 : List Value} {idx : Nat} (hd : decode (pT.cc M) pc = .ok (.invokestatic idx, 3)) (hM : pMet y (pws y cc nL ret) rm as n I J P Q') (hw : pWS (pT.own M) idx y cc nL ret as.length = true) (hh : pT.hh M = [])
    (hR : rm.frames + 1 ≤ (pT.R M).frames ∧ 8 + (nL + 11) + rm.locals ≤ (pT.R M).locals) (hc : kc + rm.cells ≤ (pT.R M).cells) (hs : ks + rm.slots ≤ (pT.R M).slots) (h0 : st0 = as.reverse ++ st) (h8 : (st.map fun v => v.category).sum ≤ 8)
    (kx : ∀ E n' I' J' P', Q' (.inr E) n' I' J' P' → Q (.inr E) n' I' J' P')
    (kk : ∀ r n' I' J' P', Q' (.inl r) n' I' J' P' → PW M Q (pc + 3) L (r.toList ++ st) n' I' J' P' (kc + rm.cells) (ks + rm.slots)) : PW M Q pc L st0 n I J P kc ks := by
  intro V A p l e s m args below meth c H locs ls C hP hS hn hz hl
  obtain ⟨hx, hb, hr, hml, hown, hts, hlo, htb, hK, hA, hF, hst, hE⟩ := id C
  simp only [pWS, Bool.and_eq_true, decide_eq_true_eq] at hw
  obtain ⟨w1, w2, w3, w5, w8, w9⟩ := hw
  have hG : GoodIn pww (pws y cc nL ret) := pww_good (fun _ h => h) (pws_in w5)
  have hrun := vx_runS (p := p) (l := l) (e := e) (R := pT.R M) (below := below) (meth := meth) (H := H) (locs := locs) (cells := kc) (slots := ks) (g := F0 m pc ls (st0.map (rv V))) (As := as.map (rv V)) (rest := st.map (rv V)) (Ts := pww) ⟨hx, hb, hml, hown, hts⟩ (hM l V H.size hst) ⟨callB_of as.length hts hG rfl rfl rfl (hts _ (pIn_mem w3)) (hts _ (pIn_mem w1)) ⟨w8.1, w8.2, w9⟩ hR, hts _ (pIn_mem w2)⟩
    ⟨pPc_blind V _ n I J P H.size, pw_pre (as := as) C hP hS hn hz⟩ rfl (by simp) hl.1 (by
      show st0.map (rv V) = _
      rw [h0]; simp) (by
      have e9 : ((st.map (rv V)).map fun v => v.category) = st.map fun v => v.category := by simp [List.map_map, Function.comp_def, rv_cat]
      show 2 * (F0 m pc ls (st0.map (rv V))).monitorRoom + _ ≤ 8
      rw [e9]; simpa [JFrame.monitorRoom] using h8) hd ⟨hc, hs⟩
  exact pw_run C hh hS hn hl hrun hc hs kx kk
/-- a nest mate's own static method, which throws nothing -/
theorem pw_callN {y : MethodName} {host : String} {cc : ByteArray} {nL : Nat} {ret : Option FieldType} {rm : Room} {as st0 : List Value} {idx : Nat} (hd : decode (pT.cc M) pc = .ok (.invokestatic idx, 3)) (hM : pMet y (pws y cc nL ret) rm as n I J P Q') (hno : ∀ E n' I' J' P', ¬ Q' (.inr E) n' I' J' P') (hw : pWN (pT.own M) idx y host cc nL ret as.length = true) (hh : pT.hh M = [])
    (hR : rm.frames + 1 ≤ (pT.R M).frames ∧ 8 + (nL + 11) + rm.locals ≤ (pT.R M).locals) (hc : kc + rm.cells ≤ (pT.R M).cells) (hs : ks + rm.slots ≤ (pT.R M).slots) (h0 : st0 = as.reverse ++ st) (h8 : (st.map fun v => v.category).sum ≤ 8)
    (kk : ∀ r n' I' J' P', Q' (.inl r) n' I' J' P' → PW M Q (pc + 3) L (r.toList ++ st) n' I' J' P' (kc + rm.cells) (ks + rm.slots)) : PW M Q pc L st0 n I J P kc ks := by
  intro V A p l e s m args below meth c H locs ls C hP hS hn hz hl
  obtain ⟨hx, hb, hr, hml, hown, hts, hlo, htb, hK, hA, hF, hst, hE⟩ := id C
  simp only [pWN, Bool.and_eq_true, decide_eq_true_eq] at hw
  obtain ⟨w1, w2, w3, w5, w8, w9⟩ := hw
  have hG : GoodIn pww (pws y cc nL ret) := pww_good (fun _ h => h) (pws_in w5)
  have hrun := va_runSN (p := p) (l := l) (e := e) (R := pT.R M) (below := below) (meth := meth) (H := H) (locs := locs) (cells := kc) (slots := ks) (g := F0 m pc ls (st0.map (rv V))) (As := as.map (rv V)) (rest := st.map (rv V)) (Ts := pww) (host := host) ⟨hx, hb, hml, hown, hts⟩ (met_of_vx (hM l V H.size hst) (fun E st t h => by obtain ⟨⟨n', I', J', P', h, -⟩, -⟩ := h; exact hno _ _ _ _ _ h)) ⟨va_cnB as.length hts hG rfl rfl rfl (hF.1 _ w1) (hts _ (pIn_mem w3)) ⟨w8.1, w8.2, w9⟩ hR, hts _ (pIn_mem w2), trivial⟩
    ⟨pPc_blind V _ n I J P H.size, pw_pre (as := as) C hP hS hn hz⟩ rfl (by simp) hl.1 (by
      show st0.map (rv V) = _
      rw [h0]; simp) (by
      have e9 : ((st.map (rv V)).map fun v => v.category) = st.map fun v => v.category := by simp [List.map_map, Function.comp_def, rv_cat]
      show 2 * (F0 m pc ls (st0.map (rv V))).monitorRoom + _ ≤ 8
      rw [e9]; simpa [JFrame.monitorRoom] using h8) hd ⟨hc, hs⟩
  refine pw_run (Q' := Q') (mc := rm.cells) (ms := rm.slots) C hh hS hn hl (fun T hT X => Or.inl (hrun T hT X)) hc hs (fun E n' I' J' P' h => absurd h (hno E n' I' J' P')) kk
end Rows
