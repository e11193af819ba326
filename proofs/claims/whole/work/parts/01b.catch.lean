/-! A thrown object is caught by a row of the method's table (rounds compile without the library's Shelf42, where the printed vx_catch looks for its like: so proved here). -/
section CT
variable {e : Env} {S s0 : State} {f : JFrame} {q : Addr} {cell : Cell}
def ct_no (pl : Platform) (s0 : State) (d : ClassId) (pc : Nat) (k : ClassId) (y : ExceptionTableEntry) : Prop :=
  covers y pc = false ∨ (y.catchType ≠ 0 ∧ ∃ c, s0.vm.ClassLinks pl d y.catchType c ∧ s0.vm.assignable k c = false)
/-- one row that covers the place: it takes the object or not, and its class is noted -/
theorem ct_row {x : ExceptionTableEntry} {t : List ExceptionTableEntry} {c : ClassId} (hx : covers x f.pc = true) (h0 : x.catchType ≠ 0) (hl : S.vm.ClassLinks e.platform f.method.cls x.catchType c) (hcell : S.heap[q]? = some cell) (hobj : ∀ k, cell.vm ≠ .statics k) (hk : ∃ k, S.vm.classes[cell.cls]? = some k) (hc : ∃ k, S.vm.classes[c]? = some k) (b : Bool) (hb : S.vm.assignable cell.cls c = b) (Q : Handler → Pre) (E : CtlPost) (d : Bool) (acts : List Action) :
    wp (findHandler.go f q (x :: t)) Q E e d acts S ↔ (if b = true then Q (.found x.handlerPc) d acts (S.setVm (S.vm.noted f.method.cls x.catchType (.cls c))) else wp (findHandler.go f q t) Q E e d acts (S.setVm (S.vm.noted f.method.cls x.catchType (.cls c)))) := by
  simp only [covers] at hx
  obtain ⟨ha, ht⟩ := (resolveClass_links e.toSetting hl).op (op := VmOp.resolveClass f.method.cls x.catchType) rfl
  have hal : S.vm.Alike (S.vm.noted f.method.cls x.catchType (.cls c)) := (Vm.Alike.refl S.vm).noted _ _ _
  obtain ⟨k1, hk1⟩ := hk
  obtain ⟨k2, hk2⟩ := hc
  obtain ⟨k1', hk1', -⟩ := hal.2.2 _ _ hk1
  obtain ⟨k2', hk2', -⟩ := hal.2.2 _ _ hk2
  have hb' : (S.vm.noted f.method.cls x.catchType (.cls c)).assignable cell.cls c = b := by rw [hal.assignable]; exact hb
  cases b <;> simp [findHandler.go, hx, h0, ha, ht, hcell, hobj, hk1', hk2', hb', VmOp.dirties, VmOp.acts]
/-- the whole table: the rows ahead don't take it, the row x does -/
theorem ct_go (hobj : ∀ k, cell.vm ≠ .statics k) (hk0 : ∃ k, s0.vm.classes[cell.cls]? = some k) (x : ExceptionTableEntry) (suf : List ExceptionTableEntry) (hx : covers x f.pc = true) (h0 : x.catchType ≠ 0) {c : ClassId} (hl : s0.vm.ClassLinks e.platform f.method.cls x.catchType c) (hfit : s0.vm.assignable cell.cls c = true) :
    ∀ (pre : List ExceptionTableEntry) (S : State), s0.WarmedH S.vm → S.heap[q]? = some cell → (∀ y ∈ pre, ct_no e.platform s0 f.method.cls f.pc cell.cls y) →
      ∃ vm', s0.WarmedH vm' ∧ ∀ (Q : Handler → Pre) (E : CtlPost) (d : Bool) (acts : List Action), wp (findHandler.go f q (pre ++ x :: suf)) Q E e d acts S ↔ Q (.found x.handlerPc) d acts (S.setVm vm') := by
  obtain ⟨k0, hk0⟩ := hk0
  intro pre
  induction pre with
  | nil =>
    intro S hW hcell _
    obtain ⟨k0', hk0', -⟩ := hW.alike.2.2 _ _ hk0
    obtain ⟨dk, _, _, kt, hd, _, _, _, _, hkt, _, hopen⟩ := hl.here
    obtain ⟨kt', hkt', -⟩ := hW.alike.2.2 _ _ hkt
    refine ⟨_, hW.noted hd hopen (State.rightAt_cls hl), fun Q E d acts => ?_⟩
    rw [List.nil_append]
    have h9 := ct_row (t := suf) hx h0 (hW.classLinks hl) hcell hobj ⟨k0', hk0'⟩ ⟨kt', hkt'⟩ true (by rw [hW.alike.assignable]; exact hfit) Q E d acts
    simpa using h9
  | cons y ys ih =>
    intro S hW hcell hpass
    obtain ⟨k0', hk0', -⟩ := hW.alike.2.2 _ _ hk0
    have hrest : ∀ z ∈ ys, ct_no e.platform s0 f.method.cls f.pc cell.cls z := fun z hz => hpass z (List.mem_cons_of_mem _ hz)
    by_cases hcov : covers y f.pc = true
    · rcases hpass y List.mem_cons_self with h | ⟨h0y, c2, hl2, hno⟩
      · rw [h] at hcov; cases hcov
      · obtain ⟨dk, _, _, kt, hd, _, _, _, _, hkt, _, hopen⟩ := hl2.here
        obtain ⟨kt', hkt', -⟩ := hW.alike.2.2 _ _ hkt
        obtain ⟨vm', hW', hq⟩ := ih (S.setVm (S.vm.noted f.method.cls y.catchType (.cls c2))) (hW.noted hd hopen (State.rightAt_cls hl2)) hcell hrest
        refine ⟨vm', hW', fun Q E d acts => ?_⟩
        have h9 := ct_row (t := ys ++ x :: suf) hcov h0y (hW.classLinks hl2) hcell hobj ⟨k0', hk0'⟩ ⟨kt', hkt'⟩ false (by rw [hW.alike.assignable]; exact hno) Q E d acts
        rw [List.cons_append]
        refine h9.trans ?_
        rw [if_neg (by decide)]
        exact hq Q E d acts
    · obtain ⟨vm', hW', hq⟩ := ih S hW hcell hrest
      refine ⟨vm', hW', fun Q E d acts => ?_⟩
      rw [List.cons_append, W.findHandler_go_skip (by simpa using hcov)]
      exact hq Q E d acts
end CT
section CT2
variable {p : Program} {l : Launch} {e : Env} {R : Room} {s : State} {m : MethodId} {args : Array Value} {below : List Frame} {meth : Method} {c : Code} {T : State} {locs : List Loc} {cells slots : Nat}
theorem ct_caught (X : Stand p l e R s m args below meth c T locs cells slots) (q : Addr) {g : JFrame} (hg : g.method = m) {cell : Cell} (hcell : T.heap[q]? = some cell) (hobj : cell.vm.isStatics = false) (hk0 : ∃ k, s.vm.classes[cell.cls]? = some k)
    (pre : List ExceptionTableEntry) (x : ExceptionTableEntry) (suf : List ExceptionTableEntry) (hsplit : c.exceptionTable.toList = pre ++ x :: suf)
    (hpass : ∀ y ∈ pre, ct_no e.platform s m.cls g.pc cell.cls y) (hx : covers x g.pc = true) (h0 : x.catchType ≠ 0) {cc : ClassId} (hl : s.vm.ClassLinks e.platform m.cls x.catchType cc) (hfit : s.vm.assignable cell.cls cc = true) :
    ∃ vm', Stand p l e R s m args below meth c (T.setVm vm') locs cells slots ∧ Steps p.tables e below ((T.setTop g).pushFrame (.throwing q)) ((T.setVm vm').setTop { g with pc := x.handlerPc, stack := [.ref q] }) := by
  subst hg
  obtain ⟨vm', hW', hq⟩ := ct_go (e := e) (s0 := s) (f := g) (q := q) (cell := cell) (VmData.ne_statics_of hobj) hk0 x suf hx h0 hl hfit pre ((T.setTop g).pushFrame (.throwing q)) X.warmed hcell hpass
  have hfind : ∀ (Q : Handler → Pre) (E : CtlPost) (d : Bool) (acts : List Action), wp (findHandler g q) Q E e d acts ((T.setTop g).pushFrame (.throwing q)) ↔ Q (.found x.handlerPc) d acts (((T.setTop g).pushFrame (.throwing q)).setVm vm') := by
    intro Q E d acts
    refine (W.findHandler_eq (s := (T.setTop g).pushFrame (.throwing q)) (meth := meth) (code := c) X.method' X.code).trans ?_
    rw [hsplit]
    exact hq Q E d acts
  refine ⟨vm', X.noted hW', ?_⟩
  have h : At T g.method c below := X.here
  obtain ⟨hgo, hw⟩ := h.throwing q
  refine Steps.head hgo hw ?_
  obtain ⟨g₀, hg⟩ := Option.isSome_iff_exists.mp h.top
  obtain ⟨r, hr⟩ := State.topJava?_eq_some.mp hg
  have hstep : ∀ r' : List Frame, (stepThrowing e ((T.setTop g).pushFrame (.throwing q)) q (.java g :: r')).Is ((((T.setTop g).pushFrame (.throwing q)).setVm vm').setFrames (.java { g with pc := x.handlerPc, stack := [.ref q] } :: r')) [] := by
    intro r'
    simp only [stepThrowing, searchFrame, vmDo]
    generalize hgq : Sem.go _ e false [] ((T.setTop g).pushFrame (.throwing q)) = res
    obtain ⟨as, rfl, ha⟩ := Sem.eq_ok_of hgq (a := Handler.found x.handlerPc) (s' := ((T.setTop g).pushFrame (.throwing q)).setVm vm') (acts' := []) (by simp [hfind _ _ _ _])
    exact ⟨rfl, ha⟩
  rw [stepThread_throwing (frames_entered h.top _), (hstep _).1]
  have hr' : (T.setVm vm').frames = .java g₀ :: r := hr
  have hsf : ∀ (u : State) (F G : List Frame), ((u.setFrames F).setVm vm').setFrames G = (u.setVm vm').setFrames G := fun u F G => by
    rw [show (u.setFrames F).setVm vm' = (u.setVm vm').setFrames F from rfl, State.setFrames_setFrames]
  have hrest : Steps p.tables e below ((T.setVm vm').setTop { g with pc := x.handlerPc, stack := [.ref q] }) ((T.setVm vm').setTop { g with pc := x.handlerPc, stack := [.ref q] }) := Steps.refl _
  rw [State.setTop_of_frames _ hr'] at hrest ⊢
  rw [hr, List.tail_cons, State.pushFrame, hsf, State.setTop_of_frames _ hr, hsf]
  exact hrest
end CT2
