/-! THE PURE JUDGEMENT. PW: from pc, with these locals, this operand stack and this memory, the method comes to an end with Q (what it returns or throws, and the memory). Values bear the world's own addresses. -/
abbrev pQ : Type := (Option Value ⊕ String) → Nat → pI → pJ → pP → Prop
def pQc (V : pEnv) (Q : pQ) (A : Nat → Prop) : Array Value → State → Outcome → State → Prop := fun _ st o t =>
  (∃ (r : Option Value) (n : Nat) (I : pI) (J : pJ) (P : pP), o = .returned (r.map (rv V)) ∧ Q (.inl r) n I J P ∧ (∀ a, a < n → A (pEnv.b V + a)) ∧ pWd V n I J P t) ∧ va_F A st t
def pXC (V : pEnv) (Q : pQ) (A : Nat → Prop) : String → State → State → Prop := fun E st t =>
  (∃ (n : Nat) (I : pI) (J : pJ) (P : pP), Q (.inr E) n I J P ∧ (∀ a, a < n → A (pEnv.b V + a)) ∧ pWd V n I J P t) ∧ va_F A st t
def pPc (V : pEnv) (as : List Value) (n : Nat) (I : pI) (J : pJ) (P : pP) (sz : Nat) : Array Value → State → Prop :=
  va_Pc (as.map (rv V)) (fun U => U.heap.size = sz ∧ pWd V n I J P U ∧ FX V (pA (pEnv.b V) n sz) U U.heap)
/-- A METHOD's CONTRACT: from every heap that holds the memory -/
def pMet (y : MethodName) (ws : List Cond) (rm : Room) (as : List Value) (n : Nat) (I : pI) (J : pJ) (P : pP) (Q : pQ) : Prop :=
  ∀ (l : Launch) (V : pEnv) (sz : Nat), l.stackTraces = false →
    vx_Met l y ws rm (pPc V as n I J P sz) (pQc V Q (pA (pEnv.b V) n sz)) (pXC V Q (pA (pEnv.b V) n sz)) rm.cells rm.slots (pA (pEnv.b V) n sz)
def mL (V : pEnv) (L : List (Nat × Value)) : List (Nat × Value) := L.map (fun q => (q.1, rv V q.2))
/-- a method: its class, its code, its locals, what it returns, its room, its table of handlers -/
abbrev pT : Type := String × ByteArray × Nat × Option FieldType × Room × List (Nat × Nat × Nat × Nat) × Option (Nat × Bool × (pEnv → (Nat → Prop) → State → Prop))
abbrev pT.own (t : pT) : String := t.1
abbrev pT.cc (t : pT) : ByteArray := t.2.1
abbrev pT.nL (t : pT) : Nat := t.2.2.1
abbrev pT.ret (t : pT) : Option FieldType := t.2.2.2.1
abbrev pT.R (t : pT) : Room := t.2.2.2.2.1
abbrev pT.hh (t : pT) : List (Nat × Nat × Nat × Nat) := t.2.2.2.2.2.1
/-- where objects are made: how many of the world's cells were there at the entry, and no other cell behind them; whether it is a constructor -/
abbrev pT.z (t : pT) : Option (Nat × Bool × (pEnv → (Nat → Prop) → State → Prop)) := t.2.2.2.2.2.2
/-- the classes of the class's own arrays of references are there -/
def OVs (s : State) : Prop := ∀ (a : Array Value) (C : String), C = "LockMuseum$Contender" ∨ C = "LockMuseum$Instruction" → (Cond.arrayOver (.object C)).before a s = true
/-- what holds all along a walk -/
def pCx (M : pT) (V : pEnv) (A : Nat → Prop) (p : Program) (l : Launch) (s : State) (m : MethodId) (args : Array Value) (meth : Method) (c : Code) : Prop :=
  p.tables.exec = Jvm.exec ∧ c.code = pT.cc M ∧ meth.sig.returnType = pT.ret M ∧ c.maxLocals = pT.nL M ∧ s.vm.findClass (pT.own M) = some m.cls ∧ (∀ w ∈ pww, w.before args s = true) ∧ meth.locks = false ∧ c.exceptionTable.toList = tableOf (pT.hh M) ∧
    va_K (pEnv.D V) vwCl (pTys V) s ∧ (∀ q, s.heap.size ≤ q → A q) ∧ FX V A s s.heap ∧ l.stackTraces = false ∧ (∀ n0 i X, pT.z M = some (n0, i, X) → s.heap.size = pEnv.b V + n0 ∧ (i = true → meth.name = "<init>") ∧ OVs s ∧ X V A s)
def PW (M : pT) (Q : pQ) (pc : Nat) (L : List (Nat × Value)) (st : List Value) (n : Nat) (I : pI) (J : pJ) (P : pP) (kc ks : Nat) : Prop :=
  ∀ (V : pEnv) (A : Nat → Prop) (p : Program) (l : Launch) (e : Env) (s : State) (m : MethodId) (args : Array Value) (below : List Frame) (meth : Method) (c : Code) (H : Heap) (locs : List Loc) (ls : Array Slot),
    pCx M V A p l s m args meth c → va_P (pEnv.D V) vwCl (wl V n I J P) H → va_S A s.heap H locs → (∀ a, a < n → A (pEnv.b V + a)) → pEnv.b V + n ≤ H.size → lv_has ls (pT.nL M) (mL V L) →
    W p l e (pT.R M) s m args below meth c H locs kc ks (vx_MQ below (pQc V Q A) (pXC V Q A) args s (pT.R M).cells (pT.R M).slots A) (F0 m pc ls (st.map (rv V)))
section Rows
variable {M : pT} {Q : pQ} {pc : Nat} {L : List (Nat × Value)} {st : List Value} {n : Nat} {I : pI} {J : pJ} {P : pP} {kc ks : Nat}
theorem mL_at {V : pEnv} {ls : Array Slot} {nL i : Nat} {v : Value} (h : lv_has ls nL (mL V L)) (hi : L.lookup i = some v) : ls[i]? = some (.val (rv V v)) := by
  have hm : (i, v) ∈ L := by
    clear h
    induction L with
    | nil => cases hi
    | cons q t ih =>
      obtain ⟨k, w⟩ := q
      rw [List.lookup_cons] at hi
      cases hq : (i == k) with
      | true =>
        rw [hq] at hi
        simp only [beq_iff_eq] at hq
        subst hq
        cases hi
        exact List.mem_cons_self
      | false =>
        rw [hq] at hi
        exact List.mem_cons_of_mem _ (ih hi)
  exact h.2.2 (i, rv V v) (List.mem_map.mpr ⟨(i, v), hm, rfl⟩)
def pSt (L : List (Nat × Value)) (i : Nat) (v : Value) : List (Nat × Value) := (i, v) :: L.filter (fun q => !(q.1 == i) && !(q.1 + 1 == i && q.2.category == 2))
def pSt2 (L : List (Nat × Value)) (i : Nat) (v : Value) : List (Nat × Value) := (i, v) :: L.filter (fun q => !(q.1 == i) && (!(q.1 == i + 1) && !(q.1 + 1 == i && q.2.category == 2)))
theorem mL_st (V : pEnv) (L : List (Nat × Value)) (i : Nat) (v : Value) : (i, rv V v) :: (mL V L).filter (fun q => !(q.1 == i) && !(q.1 + 1 == i && q.2.category == 2)) = mL V (pSt L i v) := by
  simp only [mL, pSt, List.map_cons, List.filter_map]
  congr 2
  apply List.filter_congr
  intro q _
  simp [rv_cat]
theorem mL_st2 (V : pEnv) (L : List (Nat × Value)) (i : Nat) (v : Value) : (i, rv V v) :: (mL V L).filter (fun q => !(q.1 == i) && (!(q.1 == i + 1) && !(q.1 + 1 == i && q.2.category == 2))) = mL V (pSt2 L i v) := by
  simp only [mL, pSt2, List.map_cons, List.filter_map]
  congr 2
  apply List.filter_congr
  intro q _
  simp [rv_cat]
/-- fewer locals -/
theorem pw_loc {L' : List (Nat × Value)} (h : L'.map (fun q => L.lookup q.1) = L'.map (fun q => some q.2)) (k : PW M Q pc L' st n I J P kc ks) : PW M Q pc L st n I J P kc ks := by
  intro V A p l e s m args below meth c H locs ls C hP hS hn hz hl
  refine k V A p l e s m args below meth c H locs ls C hP hS hn hz ⟨hl.1, hl.2.1, fun q hq => ?_⟩
  obtain ⟨q0, h0, rfl⟩ := List.mem_map.mp hq
  refine mL_at hl ?_
  obtain ⟨i, hi⟩ := List.getElem?_of_mem h0
  have h1 := congrArg (fun l => l[i]?) h
  simpa [hi] using h1
theorem pw_widen {k' n' : Nat} (h1 : kc ≤ k') (h2 : ks ≤ n') (k : PW M Q pc L st n I J P k' n') : PW M Q pc L st n I J P kc ks := by
  intro V A p l e s m args below meth c H locs ls C hP hS hn hz hl
  exact W.widen h1 h2 (k V A p l e s m args below meth c H locs ls C hP hS hn hz hl)
/-- another end that says no less -/
theorem pw_post {Q' : pQ} (h : ∀ r n I J P, Q' r n I J P → Q r n I J P) (k : PW M Q' pc L st n I J P kc ks) : PW M Q pc L st n I J P kc ks := by
  intro V A p l e s m args below meth c H locs ls C hP hS hn hz hl T hT X
  obtain ⟨t, a1, o, b1, b2, b3⟩ := k V A p l e s m args below meth c H locs ls C hP hS hn hz hl T hT X
  refine ⟨t, a1, o, b1, b2, ?_⟩
  rcases b3 with ⟨⟨⟨r, n', I', J', P', e1, hq, hw⟩, hF⟩, hL⟩ | ⟨q, e1, E, ce, L9, ⟨⟨n', I', J', P', hq, hw⟩, hF⟩, r3⟩
  · exact Or.inl ⟨⟨⟨r, n', I', J', P', e1, h _ _ _ _ _ hq, hw⟩, hF⟩, hL⟩
  · exact Or.inr ⟨q, e1, E, ce, L9, ⟨⟨n', I', J', P', h _ _ _ _ _ hq, hw⟩, hF⟩, r3⟩
theorem pw_iconst {z : Int} {v : Int32} (hd : decode (pT.cc M) pc = .ok (.iconst z, 1)) (hv : Int32.ofInt z = v) (k : PW M Q (pc + 1) L (.int v :: st) n I J P kc ks) : PW M Q pc L (st) n I J P kc ks := by
  intro V A p l e s m args below meth c H locs ls C hP hS hn hz hl
  exact lv_iconst C.1 C.2.1 hd hv (k V A p l e s m args below meth c H locs ls C hP hS hn hz hl)
theorem pw_bipush {z : Int} {v : Int32} (hd : decode (pT.cc M) pc = .ok (.bipush z, 2)) (hv : (Int8.ofInt z).toInt32 = v) (k : PW M Q (pc + 2) L (.int v :: st) n I J P kc ks) : PW M Q pc L (st) n I J P kc ks := by
  intro V A p l e s m args below meth c H locs ls C hP hS hn hz hl
  exact lv_bipush C.1 C.2.1 hd hv (k V A p l e s m args below meth c H locs ls C hP hS hn hz hl)
theorem pw_sipush {z : Int} {v : Int32} (hd : decode (pT.cc M) pc = .ok (.sipush z, 3)) (hv : (Int16.ofInt z).toInt32 = v) (k : PW M Q (pc + 3) L (.int v :: st) n I J P kc ks) : PW M Q pc L (st) n I J P kc ks := by
  intro V A p l e s m args below meth c H locs ls C hP hS hn hz hl
  exact lv_sipush C.1 C.2.1 hd hv (k V A p l e s m args below meth c H locs ls C hP hS hn hz hl)
theorem pw_lconst {z : Fin 2} {v : Int64} (hd : decode (pT.cc M) pc = .ok (.lconst z, 1)) (hv : Int64.ofNat (z : Nat) = v) (k : PW M Q (pc + 1) L (.long v :: st) n I J P kc ks) : PW M Q pc L (st) n I J P kc ks := by
  intro V A p l e s m args below meth c H locs ls C hP hS hn hz hl
  exact lv_lconst C.1 C.2.1 hd hv (k V A p l e s m args below meth c H locs ls C hP hS hn hz hl)
theorem pw_iload_n {z : Fin 4} {x : Int32} (hd : decode (pT.cc M) pc = .ok (.iload_n z, 1)) (hi : L.lookup (z : Nat) = some (.int x)) (k : PW M Q (pc + 1) L (.int x :: st) n I J P kc ks) : PW M Q pc L (st) n I J P kc ks := by
  intro V A p l e s m args below meth c H locs ls C hP hS hn hz hl
  exact lv_iload_n C.1 C.2.1 hd rfl (mL_at hl hi) (k V A p l e s m args below meth c H locs ls C hP hS hn hz hl)
theorem pw_iload {z : Nat} {x : Int32} (hd : decode (pT.cc M) pc = .ok (.iload z, 2)) (hi : L.lookup z = some (.int x)) (k : PW M Q (pc + 2) L (.int x :: st) n I J P kc ks) : PW M Q pc L (st) n I J P kc ks := by
  intro V A p l e s m args below meth c H locs ls C hP hS hn hz hl
  exact lv_iload C.1 C.2.1 hd (mL_at hl hi) (k V A p l e s m args below meth c H locs ls C hP hS hn hz hl)
theorem pw_istore_n {z : Fin 4} {x : Int32} (hd : decode (pT.cc M) pc = .ok (.istore_n z, 1)) (hz9 : (z : Nat) < pT.nL M) (k : PW M Q (pc + 1) (pSt L z (.int x)) (st) n I J P kc ks) : PW M Q pc L (.int x :: st) n I J P kc ks := by
  intro V A p l e s m args below meth c H locs ls C hP hS hn hz hl
  exact lv_istore_n C.1 C.2.1 hd rfl hl hz9 (mL_st V L _ (.int x)) (fun ls hl => k V A p l e s m args below meth c H locs ls C hP hS hn hz hl)
theorem pw_istore {z : Nat} {x : Int32} (hd : decode (pT.cc M) pc = .ok (.istore z, 2)) (hz9 : (z : Nat) < pT.nL M) (k : PW M Q (pc + 2) (pSt L z (.int x)) (st) n I J P kc ks) : PW M Q pc L (.int x :: st) n I J P kc ks := by
  intro V A p l e s m args below meth c H locs ls C hP hS hn hz hl
  exact lv_istore C.1 C.2.1 hd hl hz9 (mL_st V L _ (.int x)) (fun ls hl => k V A p l e s m args below meth c H locs ls C hP hS hn hz hl)
theorem pw_lload_n {z : Fin 4} {x : Int64} (hd : decode (pT.cc M) pc = .ok (.lload_n z, 1)) (hi : L.lookup (z : Nat) = some (.long x)) (k : PW M Q (pc + 1) L (.long x :: st) n I J P kc ks) : PW M Q pc L (st) n I J P kc ks := by
  intro V A p l e s m args below meth c H locs ls C hP hS hn hz hl
  exact lv_lload_n C.1 C.2.1 hd rfl (mL_at hl hi) (k V A p l e s m args below meth c H locs ls C hP hS hn hz hl)
theorem pw_lload {z : Nat} {x : Int64} (hd : decode (pT.cc M) pc = .ok (.lload z, 2)) (hi : L.lookup z = some (.long x)) (k : PW M Q (pc + 2) L (.long x :: st) n I J P kc ks) : PW M Q pc L (st) n I J P kc ks := by
  intro V A p l e s m args below meth c H locs ls C hP hS hn hz hl
  exact lv_lload C.1 C.2.1 hd (mL_at hl hi) (k V A p l e s m args below meth c H locs ls C hP hS hn hz hl)
theorem pw_lstore_n {z : Fin 4} {x : Int64} (hd : decode (pT.cc M) pc = .ok (.lstore_n z, 1)) (hz9 : (z : Nat) + 1 < pT.nL M) (k : PW M Q (pc + 1) (pSt2 L z (.long x)) (st) n I J P kc ks) : PW M Q pc L (.long x :: st) n I J P kc ks := by
  intro V A p l e s m args below meth c H locs ls C hP hS hn hz hl
  exact lv_lstore_n C.1 C.2.1 hd rfl hl hz9 (mL_st2 V L _ (.long x)) (fun ls hl => k V A p l e s m args below meth c H locs ls C hP hS hn hz hl)
theorem pw_lstore {z : Nat} {x : Int64} (hd : decode (pT.cc M) pc = .ok (.lstore z, 2)) (hz9 : (z : Nat) + 1 < pT.nL M) (k : PW M Q (pc + 2) (pSt2 L z (.long x)) (st) n I J P kc ks) : PW M Q pc L (.long x :: st) n I J P kc ks := by
  intro V A p l e s m args below meth c H locs ls C hP hS hn hz hl
  exact lv_lstore C.1 C.2.1 hd hl hz9 (mL_st2 V L _ (.long x)) (fun ls hl => k V A p l e s m args below meth c H locs ls C hP hS hn hz hl)
theorem pw_aload_n {z : Fin 4} {x : Nat} (hd : decode (pT.cc M) pc = .ok (.aload_n z, 1)) (hi : L.lookup (z : Nat) = some (.ref x)) (k : PW M Q (pc + 1) L (.ref x :: st) n I J P kc ks) : PW M Q pc L (st) n I J P kc ks := by
  intro V A p l e s m args below meth c H locs ls C hP hS hn hz hl
  exact lv_aload_n C.1 C.2.1 hd rfl (mL_at hl hi) (k V A p l e s m args below meth c H locs ls C hP hS hn hz hl)
theorem pw_aload {z : Nat} {x : Nat} (hd : decode (pT.cc M) pc = .ok (.aload z, 2)) (hi : L.lookup z = some (.ref x)) (k : PW M Q (pc + 2) L (.ref x :: st) n I J P kc ks) : PW M Q pc L (st) n I J P kc ks := by
  intro V A p l e s m args below meth c H locs ls C hP hS hn hz hl
  exact lv_aload C.1 C.2.1 hd (mL_at hl hi) (k V A p l e s m args below meth c H locs ls C hP hS hn hz hl)
theorem pw_astore_n {z : Fin 4} {x : Nat} (hd : decode (pT.cc M) pc = .ok (.astore_n z, 1)) (hz9 : (z : Nat) < pT.nL M) (k : PW M Q (pc + 1) (pSt L z (.ref x)) (st) n I J P kc ks) : PW M Q pc L (.ref x :: st) n I J P kc ks := by
  intro V A p l e s m args below meth c H locs ls C hP hS hn hz hl
  exact lv_astore_n C.1 C.2.1 hd rfl hl hz9 (mL_st V L _ (.ref x)) (fun ls hl => k V A p l e s m args below meth c H locs ls C hP hS hn hz hl)
theorem pw_astore {z : Nat} {x : Nat} (hd : decode (pT.cc M) pc = .ok (.astore z, 2)) (hz9 : (z : Nat) < pT.nL M) (k : PW M Q (pc + 2) (pSt L z (.ref x)) (st) n I J P kc ks) : PW M Q pc L (.ref x :: st) n I J P kc ks := by
  intro V A p l e s m args below meth c H locs ls C hP hS hn hz hl
  exact lv_astore C.1 C.2.1 hd hl hz9 (mL_st V L _ (.ref x)) (fun ls hl => k V A p l e s m args below meth c H locs ls C hP hS hn hz hl)
theorem pw_iadd {x y : Int32} (hd : decode (pT.cc M) pc = .ok (.iadd, 1)) (k : PW M Q (pc + 1) L (.int (x + y) :: st) n I J P kc ks) : PW M Q pc L (.int y :: .int x :: st) n I J P kc ks := by
  intro V A p l e s m args below meth c H locs ls C hP hS hn hz hl
  exact lv_iadd C.1 C.2.1 hd (k V A p l e s m args below meth c H locs ls C hP hS hn hz hl)
theorem pw_isub {x y : Int32} (hd : decode (pT.cc M) pc = .ok (.isub, 1)) (k : PW M Q (pc + 1) L (.int (x - y) :: st) n I J P kc ks) : PW M Q pc L (.int y :: .int x :: st) n I J P kc ks := by
  intro V A p l e s m args below meth c H locs ls C hP hS hn hz hl
  exact lv_isub C.1 C.2.1 hd (k V A p l e s m args below meth c H locs ls C hP hS hn hz hl)
theorem pw_imul {x y : Int32} (hd : decode (pT.cc M) pc = .ok (.imul, 1)) (k : PW M Q (pc + 1) L (.int (x * y) :: st) n I J P kc ks) : PW M Q pc L (.int y :: .int x :: st) n I J P kc ks := by
  intro V A p l e s m args below meth c H locs ls C hP hS hn hz hl
  exact lv_imul C.1 C.2.1 hd (k V A p l e s m args below meth c H locs ls C hP hS hn hz hl)
theorem pw_iand {x y : Int32} (hd : decode (pT.cc M) pc = .ok (.iand, 1)) (k : PW M Q (pc + 1) L (.int (x &&& y) :: st) n I J P kc ks) : PW M Q pc L (.int y :: .int x :: st) n I J P kc ks := by
  intro V A p l e s m args below meth c H locs ls C hP hS hn hz hl
  exact lv_iand C.1 C.2.1 hd (k V A p l e s m args below meth c H locs ls C hP hS hn hz hl)
theorem pw_ior {x y : Int32} (hd : decode (pT.cc M) pc = .ok (.ior, 1)) (k : PW M Q (pc + 1) L (.int (x ||| y) :: st) n I J P kc ks) : PW M Q pc L (.int y :: .int x :: st) n I J P kc ks := by
  intro V A p l e s m args below meth c H locs ls C hP hS hn hz hl
  exact lv_ior C.1 C.2.1 hd (k V A p l e s m args below meth c H locs ls C hP hS hn hz hl)
theorem pw_ixor {x y : Int32} (hd : decode (pT.cc M) pc = .ok (.ixor, 1)) (k : PW M Q (pc + 1) L (.int (x ^^^ y) :: st) n I J P kc ks) : PW M Q pc L (.int y :: .int x :: st) n I J P kc ks := by
  intro V A p l e s m args below meth c H locs ls C hP hS hn hz hl
  exact lv_ixor C.1 C.2.1 hd (k V A p l e s m args below meth c H locs ls C hP hS hn hz hl)
theorem pw_ladd {x y : Int64} (hd : decode (pT.cc M) pc = .ok (.ladd, 1)) (k : PW M Q (pc + 1) L (.long (x + y) :: st) n I J P kc ks) : PW M Q pc L (.long y :: .long x :: st) n I J P kc ks := by
  intro V A p l e s m args below meth c H locs ls C hP hS hn hz hl
  exact lv_ladd C.1 C.2.1 hd (k V A p l e s m args below meth c H locs ls C hP hS hn hz hl)
theorem pw_lsub {x y : Int64} (hd : decode (pT.cc M) pc = .ok (.lsub, 1)) (k : PW M Q (pc + 1) L (.long (x - y) :: st) n I J P kc ks) : PW M Q pc L (.long y :: .long x :: st) n I J P kc ks := by
  intro V A p l e s m args below meth c H locs ls C hP hS hn hz hl
  exact lv_lsub C.1 C.2.1 hd (k V A p l e s m args below meth c H locs ls C hP hS hn hz hl)
theorem pw_lmul {x y : Int64} (hd : decode (pT.cc M) pc = .ok (.lmul, 1)) (k : PW M Q (pc + 1) L (.long (x * y) :: st) n I J P kc ks) : PW M Q pc L (.long y :: .long x :: st) n I J P kc ks := by
  intro V A p l e s m args below meth c H locs ls C hP hS hn hz hl
  exact lv_lmul C.1 C.2.1 hd (k V A p l e s m args below meth c H locs ls C hP hS hn hz hl)
theorem pw_land {x y : Int64} (hd : decode (pT.cc M) pc = .ok (.land, 1)) (k : PW M Q (pc + 1) L (.long (x &&& y) :: st) n I J P kc ks) : PW M Q pc L (.long y :: .long x :: st) n I J P kc ks := by
  intro V A p l e s m args below meth c H locs ls C hP hS hn hz hl
  exact lv_land C.1 C.2.1 hd (k V A p l e s m args below meth c H locs ls C hP hS hn hz hl)
theorem pw_lor {x y : Int64} (hd : decode (pT.cc M) pc = .ok (.lor, 1)) (k : PW M Q (pc + 1) L (.long (x ||| y) :: st) n I J P kc ks) : PW M Q pc L (.long y :: .long x :: st) n I J P kc ks := by
  intro V A p l e s m args below meth c H locs ls C hP hS hn hz hl
  exact lv_lor C.1 C.2.1 hd (k V A p l e s m args below meth c H locs ls C hP hS hn hz hl)
theorem pw_lxor {x y : Int64} (hd : decode (pT.cc M) pc = .ok (.lxor, 1)) (k : PW M Q (pc + 1) L (.long (x ^^^ y) :: st) n I J P kc ks) : PW M Q pc L (.long y :: .long x :: st) n I J P kc ks := by
  intro V A p l e s m args below meth c H locs ls C hP hS hn hz hl
  exact lv_lxor C.1 C.2.1 hd (k V A p l e s m args below meth c H locs ls C hP hS hn hz hl)
theorem pw_idiv {x y : Int32} (hd : decode (pT.cc M) pc = .ok (.idiv, 1)) (hy : ¬ y = 0) (k : PW M Q (pc + 1) L (.int (x / y) :: st) n I J P kc ks) : PW M Q pc L (.int y :: .int x :: st) n I J P kc ks := by
  intro V A p l e s m args below meth c H locs ls C hP hS hn hz hl
  exact lv_idiv C.1 C.2.1 hd hy (k V A p l e s m args below meth c H locs ls C hP hS hn hz hl)
theorem pw_irem {x y : Int32} (hd : decode (pT.cc M) pc = .ok (.irem, 1)) (hy : ¬ y = 0) (k : PW M Q (pc + 1) L (.int (x - x / y * y) :: st) n I J P kc ks) : PW M Q pc L (.int y :: .int x :: st) n I J P kc ks := by
  intro V A p l e s m args below meth c H locs ls C hP hS hn hz hl
  exact lv_irem C.1 C.2.1 hd hy (k V A p l e s m args below meth c H locs ls C hP hS hn hz hl)
theorem pw_ldiv {x y : Int64} (hd : decode (pT.cc M) pc = .ok (.ldiv, 1)) (hy : ¬ y = 0) (k : PW M Q (pc + 1) L (.long (x / y) :: st) n I J P kc ks) : PW M Q pc L (.long y :: .long x :: st) n I J P kc ks := by
  intro V A p l e s m args below meth c H locs ls C hP hS hn hz hl
  exact lv_ldiv C.1 C.2.1 hd hy (k V A p l e s m args below meth c H locs ls C hP hS hn hz hl)
theorem pw_lrem {x y : Int64} (hd : decode (pT.cc M) pc = .ok (.lrem, 1)) (hy : ¬ y = 0) (k : PW M Q (pc + 1) L (.long (x - x / y * y) :: st) n I J P kc ks) : PW M Q pc L (.long y :: .long x :: st) n I J P kc ks := by
  intro V A p l e s m args below meth c H locs ls C hP hS hn hz hl
  exact lv_lrem C.1 C.2.1 hd hy (k V A p l e s m args below meth c H locs ls C hP hS hn hz hl)
theorem pw_ishl {x y : Int32} (hd : decode (pT.cc M) pc = .ok (.ishl, 1)) (k : PW M Q (pc + 1) L (.int (x <<< (y &&& 31)) :: st) n I J P kc ks) : PW M Q pc L (.int y :: .int x :: st) n I J P kc ks := by
  intro V A p l e s m args below meth c H locs ls C hP hS hn hz hl
  exact lv_ishl C.1 C.2.1 hd (k V A p l e s m args below meth c H locs ls C hP hS hn hz hl)
theorem pw_ishr {x y : Int32} (hd : decode (pT.cc M) pc = .ok (.ishr, 1)) (k : PW M Q (pc + 1) L (.int (x >>> (y &&& 31)) :: st) n I J P kc ks) : PW M Q pc L (.int y :: .int x :: st) n I J P kc ks := by
  intro V A p l e s m args below meth c H locs ls C hP hS hn hz hl
  exact lv_ishr C.1 C.2.1 hd (k V A p l e s m args below meth c H locs ls C hP hS hn hz hl)
theorem pw_iushr {x y : Int32} (hd : decode (pT.cc M) pc = .ok (.iushr, 1)) (k : PW M Q (pc + 1) L (.int (x.toUInt32 >>> (y.toUInt32 &&& Int32.toUInt32 31)).toInt32 :: st) n I J P kc ks) : PW M Q pc L (.int y :: .int x :: st) n I J P kc ks := by
  intro V A p l e s m args below meth c H locs ls C hP hS hn hz hl
  exact lv_iushr C.1 C.2.1 hd rfl (k V A p l e s m args below meth c H locs ls C hP hS hn hz hl)
theorem pw_lushr {x : Int64} {y : Int32} (hd : decode (pT.cc M) pc = .ok (.lushr, 1)) (k : PW M Q (pc + 1) L (.long (x.toUInt64 >>> (y.toInt64.toUInt64 &&& Int64.toUInt64 63)).toInt64 :: st) n I J P kc ks) : PW M Q pc L (.int y :: .long x :: st) n I J P kc ks := by
  intro V A p l e s m args below meth c H locs ls C hP hS hn hz hl
  exact lv_lushr C.1 C.2.1 hd rfl (k V A p l e s m args below meth c H locs ls C hP hS hn hz hl)
theorem pw_lshl {x : Int64} {y : Int32} (hd : decode (pT.cc M) pc = .ok (.lshl, 1)) (k : PW M Q (pc + 1) L (.long (x <<< (y.toInt64 &&& 63)) :: st) n I J P kc ks) : PW M Q pc L (.int y :: .long x :: st) n I J P kc ks := by
  intro V A p l e s m args below meth c H locs ls C hP hS hn hz hl
  exact lv_lshl C.1 C.2.1 hd rfl (k V A p l e s m args below meth c H locs ls C hP hS hn hz hl)
theorem pw_i2l {x : Int32} (hd : decode (pT.cc M) pc = .ok (.i2l, 1)) (k : PW M Q (pc + 1) L (.long x.toInt64 :: st) n I J P kc ks) : PW M Q pc L (.int x :: st) n I J P kc ks := by
  intro V A p l e s m args below meth c H locs ls C hP hS hn hz hl
  exact lv_i2l C.1 C.2.1 hd rfl (k V A p l e s m args below meth c H locs ls C hP hS hn hz hl)
theorem pw_l2i {x : Int64} (hd : decode (pT.cc M) pc = .ok (.l2i, 1)) (k : PW M Q (pc + 1) L (.int x.toInt32 :: st) n I J P kc ks) : PW M Q pc L (.long x :: st) n I J P kc ks := by
  intro V A p l e s m args below meth c H locs ls C hP hS hn hz hl
  exact lv_l2i C.1 C.2.1 hd rfl (k V A p l e s m args below meth c H locs ls C hP hS hn hz hl)
theorem pw_lcmp {x y : Int64} (hd : decode (pT.cc M) pc = .ok (.lcmp, 1)) (k : PW M Q (pc + 1) L (.int (lg_cmp x y) :: st) n I J P kc ks) : PW M Q pc L (.long y :: .long x :: st) n I J P kc ks := by
  intro V A p l e s m args below meth c H locs ls C hP hS hn hz hl
  exact W.lcmp C.1 C.2.1 hd (k V A p l e s m args below meth c H locs ls C hP hS hn hz hl)
theorem pw_dup {v : Value} (hd : decode (pT.cc M) pc = .ok (.dup, 1)) (hv : v.category = 1) (k : PW M Q (pc + 1) L (v :: v :: st) n I J P kc ks) : PW M Q pc L (v :: st) n I J P kc ks := by
  intro V A p l e s m args below meth c H locs ls C hP hS hn hz hl
  exact lv_dup C.1 C.2.1 hd (by rw [rv_cat]; exact hv) (k V A p l e s m args below meth c H locs ls C hP hS hn hz hl)
theorem pw_dup2 {v w : Value} (hd : decode (pT.cc M) pc = .ok (.dup2, 1)) (hv : v.category = 1) (hw : w.category = 1) (k : PW M Q (pc + 1) L (v :: w :: v :: w :: st) n I J P kc ks) : PW M Q pc L (v :: w :: st) n I J P kc ks := by
  intro V A p l e s m args below meth c H locs ls C hP hS hn hz hl
  exact lv_dup2_11 C.1 C.2.1 hd (by rw [rv_cat]; exact hv) (by rw [rv_cat]; exact hw) (k V A p l e s m args below meth c H locs ls C hP hS hn hz hl)
theorem pw_pop {v : Value} (hd : decode (pT.cc M) pc = .ok (.pop, 1)) (hv : v.category = 1) (k : PW M Q (pc + 1) L (st) n I J P kc ks) : PW M Q pc L (v :: st) n I J P kc ks := by
  intro V A p l e s m args below meth c H locs ls C hP hS hn hz hl
  exact lv_pop C.1 C.2.1 hd (by rw [rv_cat]; exact hv) (k V A p l e s m args below meth c H locs ls C hP hS hn hz hl)
theorem pw_goto {off : Int} {tgt : Nat} (hd : decode (pT.cc M) pc = .ok (.goto off, 3)) (ht : (pc : Int) + off = (tgt : Int)) (k : PW M Q (tgt) L (st) n I J P kc ks) : PW M Q pc L (st) n I J P kc ks := by
  intro V A p l e s m args below meth c H locs ls C hP hS hn hz hl
  exact lv_goto C.1 C.2.1 hd ht (k V A p l e s m args below meth c H locs ls C hP hS hn hz hl)
theorem pw_if_eq {x : Int32} {off : Int} {tgt : Nat} (hd : decode (pT.cc M) pc = .ok (.ifCond .eq off, 3)) (ht : (pc : Int) + off = (tgt : Int)) (kt : x = 0 → PW M Q tgt L st n I J P kc ks) (kf : ¬ (x = 0) → PW M Q (pc + 3) L st n I J P kc ks) : PW M Q pc L (.int x :: st) n I J P kc ks := by
  intro V A p l e s m args below meth c H locs ls C hP hS hn hz hl
  exact lv_if_eq C.1 C.2.1 hd ht (fun h => kt h V A p l e s m args below meth c H locs ls C hP hS hn hz hl) (fun h => kf h V A p l e s m args below meth c H locs ls C hP hS hn hz hl)
theorem pw_icmp_eq {x y : Int32} {off : Int} {tgt : Nat} (hd : decode (pT.cc M) pc = .ok (.if_icmp .eq off, 3)) (ht : (pc : Int) + off = (tgt : Int)) (kt : x = y → PW M Q tgt L st n I J P kc ks) (kf : ¬ (x = y) → PW M Q (pc + 3) L st n I J P kc ks) : PW M Q pc L (.int y :: .int x :: st) n I J P kc ks := by
  intro V A p l e s m args below meth c H locs ls C hP hS hn hz hl
  exact lv_icmp_eq C.1 C.2.1 hd ht (fun h => kt h V A p l e s m args below meth c H locs ls C hP hS hn hz hl) (fun h => kf h V A p l e s m args below meth c H locs ls C hP hS hn hz hl)
theorem pw_if_ne {x : Int32} {off : Int} {tgt : Nat} (hd : decode (pT.cc M) pc = .ok (.ifCond .ne off, 3)) (ht : (pc : Int) + off = (tgt : Int)) (kt : x ≠ 0 → PW M Q tgt L st n I J P kc ks) (kf : x = 0 → PW M Q (pc + 3) L st n I J P kc ks) : PW M Q pc L (.int x :: st) n I J P kc ks := by
  intro V A p l e s m args below meth c H locs ls C hP hS hn hz hl
  exact lv_if_ne C.1 C.2.1 hd ht (fun h => kt h V A p l e s m args below meth c H locs ls C hP hS hn hz hl) (fun h => kf h V A p l e s m args below meth c H locs ls C hP hS hn hz hl)
theorem pw_icmp_ne {x y : Int32} {off : Int} {tgt : Nat} (hd : decode (pT.cc M) pc = .ok (.if_icmp .ne off, 3)) (ht : (pc : Int) + off = (tgt : Int)) (kt : x ≠ y → PW M Q tgt L st n I J P kc ks) (kf : x = y → PW M Q (pc + 3) L st n I J P kc ks) : PW M Q pc L (.int y :: .int x :: st) n I J P kc ks := by
  intro V A p l e s m args below meth c H locs ls C hP hS hn hz hl
  exact lv_icmp_ne C.1 C.2.1 hd ht (fun h => kt h V A p l e s m args below meth c H locs ls C hP hS hn hz hl) (fun h => kf h V A p l e s m args below meth c H locs ls C hP hS hn hz hl)
theorem pw_if_lt {x : Int32} {off : Int} {tgt : Nat} (hd : decode (pT.cc M) pc = .ok (.ifCond .lt off, 3)) (ht : (pc : Int) + off = (tgt : Int)) (kt : x < 0 → PW M Q tgt L st n I J P kc ks) (kf : ¬ (x < 0) → PW M Q (pc + 3) L st n I J P kc ks) : PW M Q pc L (.int x :: st) n I J P kc ks := by
  intro V A p l e s m args below meth c H locs ls C hP hS hn hz hl
  exact lv_if_lt C.1 C.2.1 hd ht (fun h => kt h V A p l e s m args below meth c H locs ls C hP hS hn hz hl) (fun h => kf h V A p l e s m args below meth c H locs ls C hP hS hn hz hl)
theorem pw_icmp_lt {x y : Int32} {off : Int} {tgt : Nat} (hd : decode (pT.cc M) pc = .ok (.if_icmp .lt off, 3)) (ht : (pc : Int) + off = (tgt : Int)) (kt : x < y → PW M Q tgt L st n I J P kc ks) (kf : ¬ (x < y) → PW M Q (pc + 3) L st n I J P kc ks) : PW M Q pc L (.int y :: .int x :: st) n I J P kc ks := by
  intro V A p l e s m args below meth c H locs ls C hP hS hn hz hl
  exact lv_icmp_lt C.1 C.2.1 hd ht (fun h => kt h V A p l e s m args below meth c H locs ls C hP hS hn hz hl) (fun h => kf h V A p l e s m args below meth c H locs ls C hP hS hn hz hl)
theorem pw_if_ge {x : Int32} {off : Int} {tgt : Nat} (hd : decode (pT.cc M) pc = .ok (.ifCond .ge off, 3)) (ht : (pc : Int) + off = (tgt : Int)) (kt : 0 ≤ x → PW M Q tgt L st n I J P kc ks) (kf : ¬ (0 ≤ x) → PW M Q (pc + 3) L st n I J P kc ks) : PW M Q pc L (.int x :: st) n I J P kc ks := by
  intro V A p l e s m args below meth c H locs ls C hP hS hn hz hl
  exact lv_if_ge C.1 C.2.1 hd ht (fun h => kt h V A p l e s m args below meth c H locs ls C hP hS hn hz hl) (fun h => kf h V A p l e s m args below meth c H locs ls C hP hS hn hz hl)
theorem pw_icmp_ge {x y : Int32} {off : Int} {tgt : Nat} (hd : decode (pT.cc M) pc = .ok (.if_icmp .ge off, 3)) (ht : (pc : Int) + off = (tgt : Int)) (kt : y ≤ x → PW M Q tgt L st n I J P kc ks) (kf : ¬ (y ≤ x) → PW M Q (pc + 3) L st n I J P kc ks) : PW M Q pc L (.int y :: .int x :: st) n I J P kc ks := by
  intro V A p l e s m args below meth c H locs ls C hP hS hn hz hl
  exact lv_icmp_ge C.1 C.2.1 hd ht (fun h => kt h V A p l e s m args below meth c H locs ls C hP hS hn hz hl) (fun h => kf h V A p l e s m args below meth c H locs ls C hP hS hn hz hl)
theorem pw_if_gt {x : Int32} {off : Int} {tgt : Nat} (hd : decode (pT.cc M) pc = .ok (.ifCond .gt off, 3)) (ht : (pc : Int) + off = (tgt : Int)) (kt : 0 < x → PW M Q tgt L st n I J P kc ks) (kf : ¬ (0 < x) → PW M Q (pc + 3) L st n I J P kc ks) : PW M Q pc L (.int x :: st) n I J P kc ks := by
  intro V A p l e s m args below meth c H locs ls C hP hS hn hz hl
  exact lv_if_gt C.1 C.2.1 hd ht (fun h => kt h V A p l e s m args below meth c H locs ls C hP hS hn hz hl) (fun h => kf h V A p l e s m args below meth c H locs ls C hP hS hn hz hl)
theorem pw_icmp_gt {x y : Int32} {off : Int} {tgt : Nat} (hd : decode (pT.cc M) pc = .ok (.if_icmp .gt off, 3)) (ht : (pc : Int) + off = (tgt : Int)) (kt : y < x → PW M Q tgt L st n I J P kc ks) (kf : ¬ (y < x) → PW M Q (pc + 3) L st n I J P kc ks) : PW M Q pc L (.int y :: .int x :: st) n I J P kc ks := by
  intro V A p l e s m args below meth c H locs ls C hP hS hn hz hl
  exact lv_icmp_gt C.1 C.2.1 hd ht (fun h => kt h V A p l e s m args below meth c H locs ls C hP hS hn hz hl) (fun h => kf h V A p l e s m args below meth c H locs ls C hP hS hn hz hl)
theorem pw_if_le {x : Int32} {off : Int} {tgt : Nat} (hd : decode (pT.cc M) pc = .ok (.ifCond .le off, 3)) (ht : (pc : Int) + off = (tgt : Int)) (kt : x ≤ 0 → PW M Q tgt L st n I J P kc ks) (kf : ¬ (x ≤ 0) → PW M Q (pc + 3) L st n I J P kc ks) : PW M Q pc L (.int x :: st) n I J P kc ks := by
  intro V A p l e s m args below meth c H locs ls C hP hS hn hz hl
  exact lv_if_le C.1 C.2.1 hd ht (fun h => kt h V A p l e s m args below meth c H locs ls C hP hS hn hz hl) (fun h => kf h V A p l e s m args below meth c H locs ls C hP hS hn hz hl)
theorem pw_icmp_le {x y : Int32} {off : Int} {tgt : Nat} (hd : decode (pT.cc M) pc = .ok (.if_icmp .le off, 3)) (ht : (pc : Int) + off = (tgt : Int)) (kt : x ≤ y → PW M Q tgt L st n I J P kc ks) (kf : ¬ (x ≤ y) → PW M Q (pc + 3) L st n I J P kc ks) : PW M Q pc L (.int y :: .int x :: st) n I J P kc ks := by
  intro V A p l e s m args below meth c H locs ls C hP hS hn hz hl
  exact lv_icmp_le C.1 C.2.1 hd ht (fun h => kt h V A p l e s m args below meth c H locs ls C hP hS hn hz hl) (fun h => kf h V A p l e s m args below meth c H locs ls C hP hS hn hz hl)
theorem pw_iinc {i : Nat} {z : Int} {x v : Int32} (hd : decode (pT.cc M) pc = .ok (.iinc i z, 3)) (hi : L.lookup i = some (.int x)) (hv : x + Int32.ofInt z = v) (hz9 : i < pT.nL M) (k : PW M Q (pc + 3) (pSt L i (.int v)) st n I J P kc ks) : PW M Q pc L st n I J P kc ks := by
  intro V A p l e s m args below meth c H locs ls C hP hS hn hz hl
  have h1 := mL_at hl hi
  have h2 : lv_has ls (pT.nL M) ((i, .int x) :: mL V L) := ⟨hl.1, hl.2.1, fun q hq => by
    rcases List.mem_cons.mp hq with rfl | hq
    · exact h1
    · exact hl.2.2 q hq⟩
  refine lv_iinc (k := 0) (lv' := mL V (pSt L i (.int v))) C.1 C.2.1 hd h2 rfl hv hz9 ?_ (fun ls hl => k V A p l e s m args below meth c H locs ls C hP hS hn hz hl)
  rw [← mL_st V L i (.int v)]
  simp [rv]
theorem pw_tableOut {dflt lo hi : Int} {offs : Array Int} {len : Nat} {x : Int32} {tgt : Nat} (hd : decode (pT.cc M) pc = .ok (.tableswitch dflt lo hi offs, len)) (h : x.toInt < lo ∨ hi < x.toInt) (ht : (pc : Int) + dflt = (tgt : Int)) (k : PW M Q tgt L st n I J P kc ks) : PW M Q pc L (.int x :: st) n I J P kc ks := by
  intro V A p l e s m args below meth c H locs ls C hP hS hn hz hl
  exact lv_tableOut C.1 C.2.1 hd h ht (k V A p l e s m args below meth c H locs ls C hP hS hn hz hl)
theorem pw_tableIn {dflt lo hi : Int} {offs : Array Int} {len : Nat} {x : Int32} {off : Int} {tgt : Nat} (hd : decode (pT.cc M) pc = .ok (.tableswitch dflt lo hi offs, len)) (h1 : ¬ x.toInt < lo) (h2 : ¬ hi < x.toInt) (ho : offs[(x.toInt - lo).toNat]? = some off) (ht : (pc : Int) + off = (tgt : Int)) (k : PW M Q tgt L st n I J P kc ks) : PW M Q pc L (.int x :: st) n I J P kc ks := by
  intro V A p l e s m args below meth c H locs ls C hP hS hn hz hl
  exact lv_tableIn C.1 C.2.1 hd h1 h2 ho ht (k V A p l e s m args below meth c H locs ls C hP hS hn hz hl)
end Rows
