/-! THE WORLD. Both sides make all their objects once, at the law's start, one behind another: so an address is a number behind the law's first cell, and a state is what the slots hold.
I: ints and booleans, J: longs, P: references; all by address and place. -/
abbrev pI : Type := Nat → Nat → Int32
abbrev pJ : Type := Nat → Nat → Int64
abbrev pP : Type := Nat → Nat → Option Nat
/-- what lies at an address: 0 .. 6 an object of vwCl; 7 int[], 8 long[], 9 boolean[], 10 Contender[], 11 Instruction[], with its length -/
def pSL : List (Nat × Nat) := [(5, 0), (4, 0), (11, 40)] ++ List.replicate 40 (2, 0) ++ [(1, 0), (10, 3), (0, 0), (0, 0), (0, 0), (3, 0), (7, 3000), (1, 0), (10, 3), (0, 0), (0, 0), (0, 0), (7, 3), (7, 3000), (8, 9000), (7, 8192), (7, 3000), (7, 3000), (7, 9000), (9, 3000), (7, 3000), (6, 0), (7, 160), (7, 160), (7, 16), (7, 6), (7, 6), (7, 36), (9, 6), (7, 6), (7, 6), (7, 3000), (8, 3000), (8, 3000), (8, 3000), (7, 3000), (8, 3000), (9, 3000), (7, 3), (7, 3000), (8, 1)]
def pS (a : Nat) : Nat × Nat := pSL.getD a (12, 0)
def pN (ci : Nat) : Nat := [6, 3, 4, 14, 1, 4, 24].getD ci 0
/-- which fields hold references -/
def pRf (ci k : Nat) : Bool := ([[], [0], [], [0, 3, 4, 5, 6, 7, 8, 9, 10, 11, 12], [0], [0, 1, 2], [3, 4, 5, 6, 7, 8, 9, 10, 11, 13, 14, 15, 16, 17, 18, 19, 20, 22]].getD ci []).contains k
/-- b: the first cell; sa: the class's own static arrays; cy: the classes of arrays; dC, dI: classes and slots -/
abbrev pEnv : Type := Nat × (Nat → Nat) × (Nat → ClassId) × (Nat → ClassId) × (Nat → Nat → Nat)
abbrev pEnv.b (V : pEnv) : Nat := V.1
abbrev pEnv.sa (V : pEnv) : Nat → Nat := V.2.1
abbrev pEnv.cy (V : pEnv) : Nat → ClassId := V.2.2.1
abbrev pEnv.D (V : pEnv) : va_G := V.2.2.2
def ra (V : pEnv) (a : Nat) : Nat := if a < 1000 then pEnv.b V + a else pEnv.sa V (a - 1000)
def rv (V : pEnv) (v : Value) : Value := match v with
  | .ref a => .ref (ra V a)
  | v => v
theorem rv_cat (V : pEnv) (v : Value) : (rv V v).category = v.category := by cases v <;> rfl
theorem ra_lt (V : pEnv) {a : Nat} (h : a < 1000) : ra V a = pEnv.b V + a := if_pos h
def pF (V : pEnv) (I : pI) (P : pP) (ci a k : Nat) : Value := if pRf ci k = true then va_rf ((P a k).map (ra V)) else .int (I a k)
def pE (V : pEnv) (I : pI) (J : pJ) (P : pP) (a : Nat) : va_E :=
  if (pS a).1 < 7 then .inr ((pS a).1, (List.range (pN (pS a).1)).map (fun k => pF V I P (pS a).1 a k))
  else .inl (pEnv.cy V (pS a).1, (pS a).2, if (pS a).1 = 8 then .inr (.inl (J a)) else if (pS a).1 < 10 then .inl (I a) else .inr (.inr (.inr (.inr (fun j => (P a j).map (ra V))))))
def wl (V : pEnv) (n : Nat) (I : pI) (J : pJ) (P : pP) : va_W := (List.range n).map (fun a => (pEnv.b V + a, pE V I J P a))
theorem wl_at (V : pEnv) {n a : Nat} (I : pI) (J : pJ) (P : pP) (h : a < n) : (wl V n I J P)[a]? = some (pEnv.b V + a, pE V I J P a) := by
  simp [wl, h]
theorem wl_len (V : pEnv) (n : Nat) (I : pI) (J : pJ) (P : pP) : (wl V n I J P).length = n := by simp [wl]
def pTys (V : pEnv) : List (ClassId × FieldType) := [(pEnv.cy V 7, .int), (pEnv.cy V 8, .long), (pEnv.cy V 9, .boolean), (pEnv.cy V 10, .object "LockMuseum$Contender"), (pEnv.cy V 11, .object "LockMuseum$Instruction")]
/-- the world in a state -/
def pWd (V : pEnv) (n : Nat) (I : pI) (J : pJ) (P : pP) (U : State) : Prop := va_P (pEnv.D V) vwCl (wl V n I J P) U.heap ∧ va_K (pEnv.D V) vwCl (pTys V) U ∧ pEnv.b V + n ≤ U.heap.size
/-- the cells that may change: the world's, and what is new -/
def pA (b n sz : Nat) : Nat → Prop := fun q => (b ≤ q ∧ q < b + n) ∨ sz ≤ q
theorem wl_D {V : pEnv} {n : Nat} {I : pI} {J : pJ} {P : pP} {A : Nat → Prop} (h : ∀ a, a < n → A (pEnv.b V + a)) : va_D A (wl V n I J P) := by
  refine ⟨fun i j p q hi hj e => ?_, fun k q hk => ?_⟩
  · have h1 : i < n := by have := (List.getElem?_eq_some_iff.mp hi).1; rwa [wl_len] at this
    have h2 : j < n := by have := (List.getElem?_eq_some_iff.mp hj).1; rwa [wl_len] at this
    rw [wl_at V I J P h1] at hi
    rw [wl_at V I J P h2] at hj
    cases hi; cases hj
    have e1 : pEnv.b V + i = pEnv.b V + j := e
    omega
  · have h1 : k < n := by have := (List.getElem?_eq_some_iff.mp hk).1; rwa [wl_len] at this
    rw [wl_at V I J P h1] at hk
    cases hk
    exact h k h1
def upI (I : pI) (a k : Nat) (v : Int32) : pI := fun a' k' => if a' = a ∧ k' = k then v else I a' k'
def upJ (J : pJ) (a k : Nat) (v : Int64) : pJ := fun a' k' => if a' = a ∧ k' = k then v else J a' k'
def upP (P : pP) (a k : Nat) (v : Option Nat) : pP := fun a' k' => if a' = a ∧ k' = k then v else P a' k'
theorem upI_s (I : pI) (a k : Nat) (v : Int32) : upI I a k v a k = v := by simp [upI]
theorem upI_a {I : pI} {a k a' k' : Nat} {v : Int32} (h : a' ≠ a) : upI I a k v a' k' = I a' k' := by simp [upI, h]
theorem upI_k {I : pI} {a k a' k' : Nat} {v : Int32} (h : k' ≠ k) : upI I a k v a' k' = I a' k' := by simp [upI, h]
theorem upJ_s (J : pJ) (a k : Nat) (v : Int64) : upJ J a k v a k = v := by simp [upJ]
theorem upJ_a {J : pJ} {a k a' k' : Nat} {v : Int64} (h : a' ≠ a) : upJ J a k v a' k' = J a' k' := by simp [upJ, h]
theorem upJ_k {J : pJ} {a k a' k' : Nat} {v : Int64} (h : k' ≠ k) : upJ J a k v a' k' = J a' k' := by simp [upJ, h]
/-- one place of the world changes -/
theorem wl_set {V : pEnv} {n a : Nat} {I I' : pI} {J J' : pJ} {P P' : pP} {e : va_E} (ha : a < n) (he : e = pE V I' J' P' a) (ho : ∀ a', a' ≠ a → pE V I' J' P' a' = pE V I J P a') :
    (wl V n I J P).set a (pEnv.b V + a, e) = wl V n I' J' P' := by
  apply List.ext_getElem?
  intro i
  by_cases hi : i < n
  · rw [wl_at V I' J' P' hi]
    by_cases h : i = a
    · subst h
      rw [List.getElem?_set_self (by rw [wl_len]; exact hi), he]
    · rw [List.getElem?_set_ne (fun q => h q.symm), wl_at V I J P hi, ho i h]
  · rw [List.getElem?_eq_none (by rw [List.length_set, wl_len]; omega), List.getElem?_eq_none (by rw [wl_len]; omega)]
theorem pE_obj {V : pEnv} {I : pI} {J : pJ} {P : pP} {a ci : Nat} (h : (pS a).1 = ci) (hc : ci < 7) : pE V I J P a = .inr (ci, (List.range (pN ci)).map (fun k => pF V I P ci a k)) := by
  unfold pE; rw [h, if_pos hc]
theorem pE_int {V : pEnv} {I : pI} {J : pJ} {P : pP} {a n : Nat} (h : pS a = (7, n)) : pE V I J P a = .inl (pEnv.cy V 7, n, .inl (I a)) := by
  unfold pE; rw [h]; rfl
theorem pE_bool {V : pEnv} {I : pI} {J : pJ} {P : pP} {a n : Nat} (h : pS a = (9, n)) : pE V I J P a = .inl (pEnv.cy V 9, n, .inl (I a)) := by
  unfold pE; rw [h]; rfl
theorem pE_long {V : pEnv} {I : pI} {J : pJ} {P : pP} {a n : Nat} (h : pS a = (8, n)) : pE V I J P a = .inl (pEnv.cy V 8, n, .inr (.inl (J a))) := by
  unfold pE; rw [h]; rfl
theorem pE_refC {V : pEnv} {I : pI} {J : pJ} {P : pP} {a n : Nat} (h : pS a = (10, n)) : pE V I J P a = .inl (pEnv.cy V 10, n, .inr (.inr (.inr (.inr (fun j => (P a j).map (ra V)))))) := by
  unfold pE; rw [h]; rfl
theorem pE_refI {V : pEnv} {I : pI} {J : pJ} {P : pP} {a n : Nat} (h : pS a = (11, n)) : pE V I J P a = .inl (pEnv.cy V 11, n, .inr (.inr (.inr (.inr (fun j => (P a j).map (ra V)))))) := by
  unfold pE; rw [h]; rfl
/-- what a cell holds hangs on its own row alone -/
theorem pE_congr {V : pEnv} {I I' : pI} {J J' : pJ} {P P' : pP} {a : Nat} (hI : I a = I' a) (hJ : J a = J' a) (hP : P a = P' a) : pE V I J P a = pE V I' J' P' a := by
  unfold pE pF; rw [hI, hJ, hP]
theorem upI_row {I : pI} {a k a' : Nat} {v : Int32} (h : a' ≠ a) : upI I a k v a' = I a' := by funext k'; exact upI_a h
theorem upJ_row {J : pJ} {a k a' : Nat} {v : Int64} (h : a' ≠ a) : upJ J a k v a' = J a' := by funext k'; exact upJ_a h
theorem upP_row {P : pP} {a k a' : Nat} {v : Option Nat} (h : a' ≠ a) : upP P a k v a' = P a' := by funext k'; simp [upP, h]
theorem upI_own {I : pI} {a k : Nat} {v : Int32} : upI I a k v a = upd (I a) k v := by funext k'; simp [upI, upd]
theorem upJ_own {J : pJ} {a k : Nat} {v : Int64} : upJ J a k v a = vp_updL (J a) k v := by funext k'; simp [upJ, vp_updL]
