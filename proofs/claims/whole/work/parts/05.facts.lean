/-! the static arrays (abstract addresses 1000 + i), the strings, the links among nest mates: data of this class -/
def pStat : List (String × List Int32) := [("OPERAND_LIMITS", [6, 16, 0, 6, 16, 0, 6, 6, 0, 6, 6, 40, 6, 6, 40, 0, 0, 40, 0, 0, 0, 6, 8, 7, 6, 8, 7, 6, 8, 7, 6, 8, 16, 6, 8, 6, 0, 0, 0, 0, 0, 0]),
  ("SWAP_METHOD", [0, 2, 1, 0, 9, 2, 0, 6, 0, 3, 0, 0, 3, 2, 3, 5, 5, 0, 0, 0, 12, 0, 0, 0, 0, 2, 0, 0, 8, 2, 0, 6, 13, 0, 0, 0]),
  ("TICKETS_METHOD", [10, 2, 0, 1, 6, 0, 0, 0, 7, 3, 1, 6, 3, 2, 3, 5, 5, 0, 0, 2, 12, 0, 0, 0, 10, 3, 1, 1, 13, 0, 0, 0]),
  ("TWO_METHOD", [0, 1, 1, 0, 0, 3, 0, 0, 3, 0, 3, 4, 0, 1, 0, 0, 0, 2, 1, 0, 8, 2, 0, 0, 8, 1, 2, 6, 6, 0, 0, 0, 7, 2, 0, 1, 0, 3, 0, 0, 3, 2, 3, 14, 7, 2, 2, 6, 3, 2, 0, 14, 5, 0, 0, 8, 12, 0, 0, 0, 0, 2, 0, 0, 8, 2, 0, 0, 13, 0, 0, 0]),
  ("BAKERY_METHOD", [0, 2, 1, 0, 8, 2, 0, 0, 0, 3, 0, 0, 0, 4, 0, 0, 3, 4, 1, 10, 7, 5, 3, 4, 4, 5, 3, 8, 2, 3, 5, 0, 1, 4, 1, 0, 5, 0, 0, 4, 1, 3, 1, 0, 8, 3, 3, 0, 0, 2, 0, 0, 8, 2, 0, 0, 6, 0, 0, 0, 0, 4, 0, 0, 3, 4, 1, 30, 3, 4, 0, 28, 7, 5, 0, 4, 3, 5, 2, 21, 5, 0, 0, 18, 7, 5, 3, 4, 3, 5, 2, 28, 4, 5, 3, 21, 3, 5, 3, 26, 5, 0, 0, 28, 4, 4, 0, 21, 5, 0, 0, 28, 1, 4, 1, 0, 5, 0, 0, 16, 12, 0, 0, 0, 8, 2, 3, 0, 13, 0, 0, 0]),
  ("LEVELS_METHOD", [0, 2, 1, 0, 3, 2, 1, 18, 8, 2, 0, 0, 8, 0, 3, 2, 0, 4, 0, 0, 3, 4, 1, 16, 3, 4, 0, 14, 7, 5, 0, 4, 4, 5, 2, 14, 7, 5, 3, 2, 3, 5, 0, 12, 5, 0, 0, 16, 0, 4, 0, 0, 5, 0, 0, 5, 1, 4, 1, 0, 5, 0, 0, 5, 1, 2, 1, 0, 5, 0, 0, 1, 12, 0, 0, 0, 0, 2, 0, 0, 8, 2, 0, 0, 13, 0, 0, 0])]
def pStr : List (Nat × String) := [(36, "no such exhibit"), (41, "the exhibit isn't for so many"), (43, "no such instruction"), (45, "no such kind"), (51, "no such register, word, number or instruction"), (86, "it isn't idle"), (95, "it isn't trying or leaving"), (101, "it isn't inside"), (105, "no such word"), (115, "no such register"), (120, "there is nothing such to tell"), (135, "times is not 0 .. 2000"), (145, "attempts is not 1 .. 3"), (157, "no such move"), (167, "no such process")]
def pNest : List (String × Nat × MethodName × String) := [("LockMuseum", 25, ⟨"LockMuseum$Judge", "<init>", "()V"⟩, "LockMuseum"), ("LockMuseum$Contender", 27, ⟨"LockMuseum", "withNibble", "(III)I"⟩, "LockMuseum"), ("LockMuseum$Hall", 17, ⟨"LockMuseum$Contender", "<init>", "()V"⟩, "LockMuseum"), ("LockMuseum$Hall", 79, ⟨"LockMuseum", "withNibble", "(III)I"⟩, "LockMuseum"), ("LockMuseum$Hall", 83, ⟨"LockMuseum", "nibble", "(II)I"⟩, "LockMuseum"), ("LockMuseum$Program", 17, ⟨"LockMuseum$Instruction", "<init>", "()V"⟩, "LockMuseum")]
def pww : List Cond := lw_tbl.filter goodWord
def pws (y : MethodName) (cc : ByteArray) (nL : Nat) (ret : Option FieldType) : List Cond := .code y cc nL ret :: pww
def pIn (w : Cond) : Bool := decide (w ∈ lw_tbl) && goodWord w
theorem pIn_mem {w : Cond} (h : pIn w = true) : w ∈ pww := by
  simp only [pIn, Bool.and_eq_true, decide_eq_true_eq] at h
  exact List.mem_filter.mpr ⟨h.1, h.2⟩
theorem pww_good {Ts : List Cond} (hT : ∀ w ∈ pww, w ∈ Ts) {ws : List Cond} (h : ∀ w ∈ ws, w ∈ pww) : GoodIn Ts ws := fun w hw => ⟨hT w (h w hw), good_of_word (List.mem_filter.mp (h w hw)).2⟩
def pX : List (String × Nat × Nat) := [("java/lang/IllegalArgumentException", 34, 38), ("java/lang/IllegalStateException", 84, 88), ("java/lang/IndexOutOfBoundsException", 103, 107)]
def pUp : List String := ["java/lang/RuntimeException", "java/lang/Exception"]
/-- the words of the three throws that aren't good ones -/
def pOdd : List Cond := pX.map (fun q => Cond.castable q.1 q.1) ++ pX.flatMap (fun q => (vx_atS "LockMuseum" q.2.2 q.1 pUp).filter (fun w => !goodWord w))
/-- which throw a row doesn't catch -/
def pNo : List (String × String) := [("java/lang/IllegalStateException", "java/lang/IllegalArgumentException"), ("java/lang/IndexOutOfBoundsException", "java/lang/IllegalArgumentException")]
def pCD (w : Cond) : Bool := match w with
  | .castable _ _ => true
  | .declares _ => true
  | _ => false
theorem pOdd_cd : pOdd.all pCD = true := by decide +kernel
theorem pCD_warm {w : Cond} (h : pCD w = true) {s U : State} (hW : s.WarmedH U.vm) (hZ : va_Nw w s) : va_Nw w U := by
  cases w <;> first | (simp [pCD] at h; done) | exact va_Nw.warmC hW hZ | exact va_Nw.warmD hW hZ
theorem pCD_use {w : Cond} (h : pCD w = true) {A : Array Value} {U : State} (hZ : va_Nw w U) : w.before A U = true := by
  cases w <;> first | (simp [pCD] at h; done) | exact va_Nw.use rfl hZ
/-- what a method may take as given of the tables and of the old heap, beside the good words -/
def FX (V : pEnv) (A : Nat → Prop) (U : State) (H : Heap) : Prop :=
  (∀ q ∈ pNest, va_Nw (.methodLinkNest q.1 q.2.1 q.2.2.1 q.2.2.2) U) ∧
  (∀ (i : Nat) (q : String × List Int32), pStat[i]? = some q → va_Z "LockMuseum" q.1 "[I" (.ref (pEnv.sa V i)) A U H ∧ va_T .int (pEnv.sa V i) q.2.length (fun j => .int (q.2.getD j 0)) A U H) ∧
  vx_Zq Bundle.tN "UNASSIGNED_STACK" Bundle.steD A U H ∧ vx_Zq Bundle.tN "SUPPRESSED_SENTINEL" Bundle.listD A U H ∧
  (∀ q ∈ pStr, ∃ a, vk_R "LockMuseum" q.1 q.2 a U) ∧ (∀ w ∈ pOdd, va_Nw w U) ∧ (∀ q ∈ pNo, va_Nc q.1 q.2 U)
theorem FX.call {V : pEnv} {A B : Nat → Prop} {s U : State} {H : Heap} {locs : List Loc} (h : FX V A s s.heap) (hS : va_S A s.heap H locs) (hW : s.WarmedH U.vm) (hU : U.heap = H) (hB : ∀ q, q < s.heap.size → B q → A q) : FX V B U U.heap := by
  obtain ⟨h1, h2, h3, h4, h5, h6, h7⟩ := h
  have kz : ∀ {C n d : String} {v : Value}, va_Z C n d v A s s.heap → va_Z C n d v B U U.heap := by
    intro C n d v hz
    obtain ⟨cf, kf, fi, f, a, cell, q1, q2, q3, q4, q5, q6, q7, q8⟩ := va_Z.moved hW.alike hz
    exact ⟨cf, kf, fi, f, a, cell, q1, q2, q3, q4, by rw [hU, hS.2.1 a (Array.getElem?_eq_some_iff.mp q5).1 q8]; exact q5, q6, q7, fun z => q8 (hB a (Array.getElem?_eq_some_iff.mp q5).1 z)⟩
  have kt : ∀ {ty : FieldType} {t N : Nat} {f : Nat → Value}, va_T ty t N f A s s.heap → va_T ty t N f B U U.heap := by
    intro ty t N f hz
    obtain ⟨cell, q1, q2, q3, q4, q5, q6, q7⟩ := va_T.moved hW.alike hz
    exact ⟨cell, by rw [hU, hS.2.1 t (Array.getElem?_eq_some_iff.mp q1).1 q7]; exact q1, q2, q3, q4, q5, q6, fun z => q7 (hB t (Array.getElem?_eq_some_iff.mp q1).1 z)⟩
  have kl : ∀ {C n d : String}, vx_L C n d A s s.heap → vx_L C n d B U U.heap := by
    intro C n d hz
    obtain ⟨c, k, i, f, a, cell, q1, q2, q3, q4, q5, q6, q7, q8, q9, q10⟩ := vx_L.moved hW.alike hz
    exact ⟨c, k, i, f, a, cell, q1, q2, q3, q4, by rw [hU, hS.2.1 a (Array.getElem?_eq_some_iff.mp q5).1 q10]; exact q5, q6, q7, q8, q9, fun z => q10 (hB a (Array.getElem?_eq_some_iff.mp q5).1 z)⟩
  have kq : ∀ {C n d : String}, vx_Zq C n d A s s.heap → vx_Zq C n d B U U.heap := by
    intro C n d hz
    refine ⟨?_, kl hz.2⟩
    rcases hz.1 with h | ⟨t, h⟩
    · exact Or.inl (kz h)
    · exact Or.inr ⟨t, kz h⟩
  exact ⟨fun q hq => va_Nw.warmM hW (h1 q hq), fun i q hq => ⟨kz (h2 i q hq).1, kt (h2 i q hq).2⟩, kq h3, kq h4, fun q hq => by obtain ⟨a, ha⟩ := h5 q hq; exact ⟨a, vk_R.warm hW ha⟩, fun w hw => pCD_warm (List.all_eq_true.mp pOdd_cd w hw) hW (h6 w hw), fun q hq => va_Nc.moved hW.alike (h7 q hq)⟩
theorem FX.same {V : pEnv} {A : Nat → Prop} {s U : State} (hvm : U.vm = s.vm) (hU : U.heap = s.heap) (h : FX V A s s.heap) : FX V A U U.heap :=
  FX.call h (va_S.rf (A := A)) (by rw [hvm]; exact State.WarmedH.refl s) hU (fun _ _ h => h)
