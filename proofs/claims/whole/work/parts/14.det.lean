/-! contracts in the steady state: all 84 cells are there, the references stand as the constructors leave them -/
def pRs : pP := fun a k =>
  if a = 0 then [some 1, some 43, some 48].getD k none
  else if a = 1 then [some 2].getD k none
  else if a = 2 then some (3 + k)
  else if a = 43 then [some 44].getD k none
  else if a = 44 then some (45 + k)
  else if a = 48 then [some 49, none, none, some 50, some 55, some 56, some 57, some 58, some 59, some 60, some 61, some 62, some 63].getD k none
  else if a = 50 then [some 51].getD k none
  else if a = 51 then some (52 + k)
  else if a = 64 then [none, none, none, some 65, some 66, some 67, some 68, some 69, some 70, some 71, some 72, some 73, none, some 74, some 75, some 76, some 77, some 78, some 79, some 80, some 81, none, some 82].getD k none
  else none
theorem pS_ins {i : Nat} (h : i < 40) : (pS (3 + i)).1 = 2 := by
  have : ∀ i, i < 40 → (pS (3 + i)).1 = 2 := by decide
  exact this i h
theorem pS_con {i : Nat} (h : i < 3) : (pS (45 + i)).1 = 0 := by
  have : ∀ i, i < 3 → (pS (45 + i)).1 = 0 := by decide
  exact this i h
theorem pS_coj {i : Nat} (h : i < 3) : (pS (52 + i)).1 = 0 := by
  have : ∀ i, i < 3 → (pS (52 + i)).1 = 0 := by decide
  exact this i h
def pOv (post : pI → pJ → Prop) : pQ := fun o n' I' J' P' => o = .inl none ∧ n' = 84 ∧ P' = pRs ∧ post I' J'
def pOx (E : String) (post : pI → pJ → Prop) : pQ := fun o n' I' J' P' => o = .inr E ∧ n' = 84 ∧ P' = pRs ∧ post I' J'
def pOi (post : Int32 → pI → pJ → Prop) : pQ := fun o n' I' J' P' => ∃ r : Int32, o = .inl (some (.int r)) ∧ n' = 84 ∧ P' = pRs ∧ post r I' J'
def pOl (post : Int64 → pI → pJ → Prop) : pQ := fun o n' I' J' P' => ∃ r : Int64, o = .inl (some (.long r)) ∧ n' = 84 ∧ P' = pRs ∧ post r I' J'
def pOr (post : Nat → pI → pJ → Prop) : pQ := fun o n' I' J' P' => ∃ r : Nat, o = .inl (some (.ref r)) ∧ n' = 84 ∧ P' = pRs ∧ post r I' J'
section Rows
variable {M : pT} {Q : pQ} {pc : Nat} {L : List (Nat × Value)} {st : List Value} {I : pI} {J : pJ} {kc ks : Nat}
variable {y : MethodName} {cc : ByteArray} {nL : Nat} {ret : Option FieldType} {rm : Room} {as st0 : List Value} {a idx ci : Nat}
theorem pw_cVv {post : pI → pJ → Prop} (hd : decode (pT.cc M) pc = .ok (.invokevirtual idx, 3)) (hM : pMet y (pws y cc nL ret) rm (.ref a :: as) 84 I J pRs (pOv post)) (hw : pWV (pT.own M) idx ci y cc nL ret as.length = true) (hk : (pS a).1 = ci) (ha : a < 84) (hh : pT.hh M = []) (hR : rm.frames + 1 ≤ (pT.R M).frames ∧ 8 + (nL + 11) + rm.locals ≤ (pT.R M).locals) (hc : kc + rm.cells ≤ (pT.R M).cells) (hs : ks + rm.slots ≤ (pT.R M).slots) (h0 : st0 = as.reverse ++ .ref a :: st) (h8 : (st.map fun v => v.category).sum ≤ 8) (kk : ∀ I' J', post I' J' → PW M Q (pc + 3) L st 84 I' J' pRs (kc + rm.cells) (ks + rm.slots)) : PW M Q pc L st0 84 I J pRs kc ks := by
  refine pw_callV hd hM hw hk ha (by decide) hh hR hc hs h0 h8 (fun E n' I' J' P' h => by obtain ⟨h, -⟩ := h; cases h) (fun r n' I' J' P' h => ?_)
  obtain ⟨h1, rfl, rfl, h2⟩ := h
  cases h1
  exact kk I' J' h2
theorem pw_cVi {post : Int32 → pI → pJ → Prop} (hd : decode (pT.cc M) pc = .ok (.invokevirtual idx, 3)) (hM : pMet y (pws y cc nL ret) rm (.ref a :: as) 84 I J pRs (pOi post)) (hw : pWV (pT.own M) idx ci y cc nL ret as.length = true) (hk : (pS a).1 = ci) (ha : a < 84) (hh : pT.hh M = []) (hR : rm.frames + 1 ≤ (pT.R M).frames ∧ 8 + (nL + 11) + rm.locals ≤ (pT.R M).locals) (hc : kc + rm.cells ≤ (pT.R M).cells) (hs : ks + rm.slots ≤ (pT.R M).slots) (h0 : st0 = as.reverse ++ .ref a :: st) (h8 : (st.map fun v => v.category).sum ≤ 8) (kk : ∀ x I' J', post x I' J' → PW M Q (pc + 3) L (.int x :: st) 84 I' J' pRs (kc + rm.cells) (ks + rm.slots)) : PW M Q pc L st0 84 I J pRs kc ks := by
  refine pw_callV hd hM hw hk ha (by decide) hh hR hc hs h0 h8 (fun E n' I' J' P' h => by obtain ⟨_, h, -⟩ := h; cases h) (fun r n' I' J' P' h => ?_)
  obtain ⟨x, h1, rfl, rfl, h2⟩ := h
  cases h1
  exact kk x I' J' h2
theorem pw_cVl {post : Int64 → pI → pJ → Prop} (hd : decode (pT.cc M) pc = .ok (.invokevirtual idx, 3)) (hM : pMet y (pws y cc nL ret) rm (.ref a :: as) 84 I J pRs (pOl post)) (hw : pWV (pT.own M) idx ci y cc nL ret as.length = true) (hk : (pS a).1 = ci) (ha : a < 84) (hh : pT.hh M = []) (hR : rm.frames + 1 ≤ (pT.R M).frames ∧ 8 + (nL + 11) + rm.locals ≤ (pT.R M).locals) (hc : kc + rm.cells ≤ (pT.R M).cells) (hs : ks + rm.slots ≤ (pT.R M).slots) (h0 : st0 = as.reverse ++ .ref a :: st) (h8 : (st.map fun v => v.category).sum ≤ 8) (kk : ∀ x I' J', post x I' J' → PW M Q (pc + 3) L (.long x :: st) 84 I' J' pRs (kc + rm.cells) (ks + rm.slots)) : PW M Q pc L st0 84 I J pRs kc ks := by
  refine pw_callV hd hM hw hk ha (by decide) hh hR hc hs h0 h8 (fun E n' I' J' P' h => by obtain ⟨_, h, -⟩ := h; cases h) (fun r n' I' J' P' h => ?_)
  obtain ⟨x, h1, rfl, rfl, h2⟩ := h
  cases h1
  exact kk x I' J' h2
theorem pw_cVr {post : Nat → pI → pJ → Prop} (hd : decode (pT.cc M) pc = .ok (.invokevirtual idx, 3)) (hM : pMet y (pws y cc nL ret) rm (.ref a :: as) 84 I J pRs (pOr post)) (hw : pWV (pT.own M) idx ci y cc nL ret as.length = true) (hk : (pS a).1 = ci) (ha : a < 84) (hh : pT.hh M = []) (hR : rm.frames + 1 ≤ (pT.R M).frames ∧ 8 + (nL + 11) + rm.locals ≤ (pT.R M).locals) (hc : kc + rm.cells ≤ (pT.R M).cells) (hs : ks + rm.slots ≤ (pT.R M).slots) (h0 : st0 = as.reverse ++ .ref a :: st) (h8 : (st.map fun v => v.category).sum ≤ 8) (kk : ∀ x I' J', post x I' J' → PW M Q (pc + 3) L (.ref x :: st) 84 I' J' pRs (kc + rm.cells) (ks + rm.slots)) : PW M Q pc L st0 84 I J pRs kc ks := by
  refine pw_callV hd hM hw hk ha (by decide) hh hR hc hs h0 h8 (fun E n' I' J' P' h => by obtain ⟨_, h, -⟩ := h; cases h) (fun r n' I' J' P' h => ?_)
  obtain ⟨x, h1, rfl, rfl, h2⟩ := h
  cases h1
  exact kk x I' J' h2
theorem pw_cVx {E : String} {post : pI → pJ → Prop} (hd : decode (pT.cc M) pc = .ok (.invokevirtual idx, 3)) (hM : pMet y (pws y cc nL ret) rm (.ref a :: as) 84 I J pRs (pOx E post)) (hw : pWV (pT.own M) idx ci y cc nL ret as.length = true) (hk : (pS a).1 = ci) (ha : a < 84) (hh : pT.hh M = []) (hR : rm.frames + 1 ≤ (pT.R M).frames ∧ 8 + (nL + 11) + rm.locals ≤ (pT.R M).locals) (hc : kc + rm.cells ≤ (pT.R M).cells) (hs : ks + rm.slots ≤ (pT.R M).slots) (h0 : st0 = as.reverse ++ .ref a :: st) (h8 : (st.map fun v => v.category).sum ≤ 8) (kk : ∀ I' J', post I' J' → Q (.inr E) 84 I' J' pRs) : PW M Q pc L st0 84 I J pRs kc ks := by
  refine pw_callV hd hM hw hk ha (by decide) hh hR hc hs h0 h8 (fun E n' I' J' P' h => by obtain ⟨h1, h2, h3, h4⟩ := h; cases h1; subst h2; subst h3; exact kk _ _ h4) (fun r n' I' J' P' h => ?_)
  obtain ⟨h, -⟩ := h
  cases h
theorem pw_cSv {post : pI → pJ → Prop} (hd : decode (pT.cc M) pc = .ok (.invokestatic idx, 3)) (hM : pMet y (pws y cc nL ret) rm as 84 I J pRs (pOv post)) (hw : pWS (pT.own M) idx y cc nL ret as.length = true) (hh : pT.hh M = []) (hR : rm.frames + 1 ≤ (pT.R M).frames ∧ 8 + (nL + 11) + rm.locals ≤ (pT.R M).locals) (hc : kc + rm.cells ≤ (pT.R M).cells) (hs : ks + rm.slots ≤ (pT.R M).slots) (h0 : st0 = as.reverse ++ st) (h8 : (st.map fun v => v.category).sum ≤ 8) (kk : ∀ I' J', post I' J' → PW M Q (pc + 3) L st 84 I' J' pRs (kc + rm.cells) (ks + rm.slots)) : PW M Q pc L st0 84 I J pRs kc ks := by
  refine pw_callS hd hM hw hh hR hc hs h0 h8 (fun E n' I' J' P' h => by obtain ⟨h, -⟩ := h; cases h) (fun r n' I' J' P' h => ?_)
  obtain ⟨h1, rfl, rfl, h2⟩ := h
  cases h1
  exact kk I' J' h2
theorem pw_cSi {post : Int32 → pI → pJ → Prop} (hd : decode (pT.cc M) pc = .ok (.invokestatic idx, 3)) (hM : pMet y (pws y cc nL ret) rm as 84 I J pRs (pOi post)) (hw : pWS (pT.own M) idx y cc nL ret as.length = true) (hh : pT.hh M = []) (hR : rm.frames + 1 ≤ (pT.R M).frames ∧ 8 + (nL + 11) + rm.locals ≤ (pT.R M).locals) (hc : kc + rm.cells ≤ (pT.R M).cells) (hs : ks + rm.slots ≤ (pT.R M).slots) (h0 : st0 = as.reverse ++ st) (h8 : (st.map fun v => v.category).sum ≤ 8) (kk : ∀ x I' J', post x I' J' → PW M Q (pc + 3) L (.int x :: st) 84 I' J' pRs (kc + rm.cells) (ks + rm.slots)) : PW M Q pc L st0 84 I J pRs kc ks := by
  refine pw_callS hd hM hw hh hR hc hs h0 h8 (fun E n' I' J' P' h => by obtain ⟨_, h, -⟩ := h; cases h) (fun r n' I' J' P' h => ?_)
  obtain ⟨x, h1, rfl, rfl, h2⟩ := h
  cases h1
  exact kk x I' J' h2
theorem pw_cSl {post : Int64 → pI → pJ → Prop} (hd : decode (pT.cc M) pc = .ok (.invokestatic idx, 3)) (hM : pMet y (pws y cc nL ret) rm as 84 I J pRs (pOl post)) (hw : pWS (pT.own M) idx y cc nL ret as.length = true) (hh : pT.hh M = []) (hR : rm.frames + 1 ≤ (pT.R M).frames ∧ 8 + (nL + 11) + rm.locals ≤ (pT.R M).locals) (hc : kc + rm.cells ≤ (pT.R M).cells) (hs : ks + rm.slots ≤ (pT.R M).slots) (h0 : st0 = as.reverse ++ st) (h8 : (st.map fun v => v.category).sum ≤ 8) (kk : ∀ x I' J', post x I' J' → PW M Q (pc + 3) L (.long x :: st) 84 I' J' pRs (kc + rm.cells) (ks + rm.slots)) : PW M Q pc L st0 84 I J pRs kc ks := by
  refine pw_callS hd hM hw hh hR hc hs h0 h8 (fun E n' I' J' P' h => by obtain ⟨_, h, -⟩ := h; cases h) (fun r n' I' J' P' h => ?_)
  obtain ⟨x, h1, rfl, rfl, h2⟩ := h
  cases h1
  exact kk x I' J' h2
theorem pw_cSr {post : Nat → pI → pJ → Prop} (hd : decode (pT.cc M) pc = .ok (.invokestatic idx, 3)) (hM : pMet y (pws y cc nL ret) rm as 84 I J pRs (pOr post)) (hw : pWS (pT.own M) idx y cc nL ret as.length = true) (hh : pT.hh M = []) (hR : rm.frames + 1 ≤ (pT.R M).frames ∧ 8 + (nL + 11) + rm.locals ≤ (pT.R M).locals) (hc : kc + rm.cells ≤ (pT.R M).cells) (hs : ks + rm.slots ≤ (pT.R M).slots) (h0 : st0 = as.reverse ++ st) (h8 : (st.map fun v => v.category).sum ≤ 8) (kk : ∀ x I' J', post x I' J' → PW M Q (pc + 3) L (.ref x :: st) 84 I' J' pRs (kc + rm.cells) (ks + rm.slots)) : PW M Q pc L st0 84 I J pRs kc ks := by
  refine pw_callS hd hM hw hh hR hc hs h0 h8 (fun E n' I' J' P' h => by obtain ⟨_, h, -⟩ := h; cases h) (fun r n' I' J' P' h => ?_)
  obtain ⟨x, h1, rfl, rfl, h2⟩ := h
  cases h1
  exact kk x I' J' h2
theorem pw_cSx {E : String} {post : pI → pJ → Prop} (hd : decode (pT.cc M) pc = .ok (.invokestatic idx, 3)) (hM : pMet y (pws y cc nL ret) rm as 84 I J pRs (pOx E post)) (hw : pWS (pT.own M) idx y cc nL ret as.length = true) (hh : pT.hh M = []) (hR : rm.frames + 1 ≤ (pT.R M).frames ∧ 8 + (nL + 11) + rm.locals ≤ (pT.R M).locals) (hc : kc + rm.cells ≤ (pT.R M).cells) (hs : ks + rm.slots ≤ (pT.R M).slots) (h0 : st0 = as.reverse ++ st) (h8 : (st.map fun v => v.category).sum ≤ 8) (kk : ∀ I' J', post I' J' → Q (.inr E) 84 I' J' pRs) : PW M Q pc L st0 84 I J pRs kc ks := by
  refine pw_callS hd hM hw hh hR hc hs h0 h8 (fun E n' I' J' P' h => by obtain ⟨h1, h2, h3, h4⟩ := h; cases h1; subst h2; subst h3; exact kk _ _ h4) (fun r n' I' J' P' h => ?_)
  obtain ⟨h, -⟩ := h
  cases h
theorem pw_cNv {post : pI → pJ → Prop} {host : String} (hd : decode (pT.cc M) pc = .ok (.invokestatic idx, 3)) (hM : pMet y (pws y cc nL ret) rm as 84 I J pRs (pOv post)) (hw : pWN (pT.own M) idx y host cc nL ret as.length = true) (hh : pT.hh M = []) (hR : rm.frames + 1 ≤ (pT.R M).frames ∧ 8 + (nL + 11) + rm.locals ≤ (pT.R M).locals) (hc : kc + rm.cells ≤ (pT.R M).cells) (hs : ks + rm.slots ≤ (pT.R M).slots) (h0 : st0 = as.reverse ++ st) (h8 : (st.map fun v => v.category).sum ≤ 8) (kk : ∀ I' J', post I' J' → PW M Q (pc + 3) L st 84 I' J' pRs (kc + rm.cells) (ks + rm.slots)) : PW M Q pc L st0 84 I J pRs kc ks := by
  refine pw_callN hd hM (fun E n' I' J' P' h => by obtain ⟨h, -⟩ := h; cases h) hw hh hR hc hs h0 h8 (fun r n' I' J' P' h => ?_)
  obtain ⟨h1, rfl, rfl, h2⟩ := h
  cases h1
  exact kk I' J' h2
theorem pw_cNi {post : Int32 → pI → pJ → Prop} {host : String} (hd : decode (pT.cc M) pc = .ok (.invokestatic idx, 3)) (hM : pMet y (pws y cc nL ret) rm as 84 I J pRs (pOi post)) (hw : pWN (pT.own M) idx y host cc nL ret as.length = true) (hh : pT.hh M = []) (hR : rm.frames + 1 ≤ (pT.R M).frames ∧ 8 + (nL + 11) + rm.locals ≤ (pT.R M).locals) (hc : kc + rm.cells ≤ (pT.R M).cells) (hs : ks + rm.slots ≤ (pT.R M).slots) (h0 : st0 = as.reverse ++ st) (h8 : (st.map fun v => v.category).sum ≤ 8) (kk : ∀ x I' J', post x I' J' → PW M Q (pc + 3) L (.int x :: st) 84 I' J' pRs (kc + rm.cells) (ks + rm.slots)) : PW M Q pc L st0 84 I J pRs kc ks := by
  refine pw_callN hd hM (fun E n' I' J' P' h => by obtain ⟨_, h, -⟩ := h; cases h) hw hh hR hc hs h0 h8 (fun r n' I' J' P' h => ?_)
  obtain ⟨x, h1, rfl, rfl, h2⟩ := h
  cases h1
  exact kk x I' J' h2
theorem pw_cNl {post : Int64 → pI → pJ → Prop} {host : String} (hd : decode (pT.cc M) pc = .ok (.invokestatic idx, 3)) (hM : pMet y (pws y cc nL ret) rm as 84 I J pRs (pOl post)) (hw : pWN (pT.own M) idx y host cc nL ret as.length = true) (hh : pT.hh M = []) (hR : rm.frames + 1 ≤ (pT.R M).frames ∧ 8 + (nL + 11) + rm.locals ≤ (pT.R M).locals) (hc : kc + rm.cells ≤ (pT.R M).cells) (hs : ks + rm.slots ≤ (pT.R M).slots) (h0 : st0 = as.reverse ++ st) (h8 : (st.map fun v => v.category).sum ≤ 8) (kk : ∀ x I' J', post x I' J' → PW M Q (pc + 3) L (.long x :: st) 84 I' J' pRs (kc + rm.cells) (ks + rm.slots)) : PW M Q pc L st0 84 I J pRs kc ks := by
  refine pw_callN hd hM (fun E n' I' J' P' h => by obtain ⟨_, h, -⟩ := h; cases h) hw hh hR hc hs h0 h8 (fun r n' I' J' P' h => ?_)
  obtain ⟨x, h1, rfl, rfl, h2⟩ := h
  cases h1
  exact kk x I' J' h2
theorem pw_cNr {post : Nat → pI → pJ → Prop} {host : String} (hd : decode (pT.cc M) pc = .ok (.invokestatic idx, 3)) (hM : pMet y (pws y cc nL ret) rm as 84 I J pRs (pOr post)) (hw : pWN (pT.own M) idx y host cc nL ret as.length = true) (hh : pT.hh M = []) (hR : rm.frames + 1 ≤ (pT.R M).frames ∧ 8 + (nL + 11) + rm.locals ≤ (pT.R M).locals) (hc : kc + rm.cells ≤ (pT.R M).cells) (hs : ks + rm.slots ≤ (pT.R M).slots) (h0 : st0 = as.reverse ++ st) (h8 : (st.map fun v => v.category).sum ≤ 8) (kk : ∀ x I' J', post x I' J' → PW M Q (pc + 3) L (.ref x :: st) 84 I' J' pRs (kc + rm.cells) (ks + rm.slots)) : PW M Q pc L st0 84 I J pRs kc ks := by
  refine pw_callN hd hM (fun E n' I' J' P' h => by obtain ⟨_, h, -⟩ := h; cases h) hw hh hR hc hs h0 h8 (fun r n' I' J' P' h => ?_)
  obtain ⟨x, h1, rfl, rfl, h2⟩ := h
  cases h1
  exact kk x I' J' h2
end Rows
