/-! WHAT IS GIVEN at the start -/
def nar : List Cond := flatC (Jvm.Cond.and given_1 narrow_1)
def inN (w : Cond) : Bool := decide (w ∈ nar)
def inT (w : Cond) : Bool := decide (w ∈ lw_tbl)
def okA (q : String × List Int32) : Bool := inN (.arrayOf (.static "LockMuseum" q.1 "[I") .int) && (inN (.eq (.length (.static "LockMuseum" q.1 "[I")) (.int (Int32.ofNat q.2.length))) && (inT (.laysStatic "LockMuseum" q.1 "[I") && decide (q.2.length < 2 ^ 31)))
theorem g_arr : pStat.all okA = true := by decide +kernel
theorem g_ini : inT (.initialized "LockMuseum") = true := by decide +kernel
theorem g_nest : pNest.all (fun q => inT (.methodLinkNest q.1 q.2.1 q.2.2.1 q.2.2.2)) = true := by decide +kernel
theorem g_thr : (inT (.laysStatic Bundle.tN "UNASSIGNED_STACK" Bundle.steD) && (inT (.laysStatic Bundle.tN "SUPPRESSED_SENTINEL" Bundle.listD) && (inT (.initialized Bundle.tN) && (inN (.isRef (.static Bundle.tN "UNASSIGNED_STACK" Bundle.steD)) && inN (.isRef (.static Bundle.tN "SUPPRESSED_SENTINEL" Bundle.listD)))))) = true := by decide +kernel
theorem g_str : pStr.all (fun q => inT (.stringRef "LockMuseum" q.1 q.2) && inN (.exactly (.string "LockMuseum" q.1) "java/lang/String")) = true := by decide +kernel
theorem g_odd : pOdd.all (fun w => inT w || inN w) = true := by decide +kernel
theorem g_no : pNo.all (fun q => inN (.not (.castable q.1 q.2))) = true := by decide +kernel
theorem g_over : (inT (.arrayOver (.object "LockMuseum$Contender")) && inT (.arrayOver (.object "LockMuseum$Instruction"))) = true := by decide +kernel
def elC (q : String × List Int32) (j : Nat) : Cond := .eq (.elem (.static "LockMuseum" q.1 "[I") (.int (Int32.ofNat j))) (.int (q.2.getD j 0))
set_option maxRecDepth 100000 in
theorem g_e0 : (nar.drop 384).take 42 = (List.range 42).map (elC (pStat.getD 0 ("", []))) := by decide +kernel
set_option maxRecDepth 100000 in
theorem g_e1 : (nar.drop 343).take 36 = (List.range 36).map (elC (pStat.getD 1 ("", []))) := by decide +kernel
set_option maxRecDepth 100000 in
theorem g_e2 : (nar.drop 7).take 32 = (List.range 32).map (elC (pStat.getD 2 ("", []))) := by decide +kernel
set_option maxRecDepth 100000 in
theorem g_e3 : (nar.drop 42).take 72 = (List.range 72).map (elC (pStat.getD 3 ("", []))) := by decide +kernel
set_option maxRecDepth 100000 in
theorem g_e4 : (nar.drop 117).take 132 = (List.range 132).map (elC (pStat.getD 4 ("", []))) := by decide +kernel
set_option maxRecDepth 100000 in
theorem g_e5 : (nar.drop 252).take 88 = (List.range 88).map (elC (pStat.getD 5 ("", []))) := by decide +kernel
theorem g_mem {N p n : Nat} {q : String × List Int32} (h : (nar.drop p).take n = (List.range n).map (elC q)) (hN : N = n) : ∀ j, j < N → elC q j ∈ nar := by
  subst hN
  intro j hj
  have h1 : elC q j ∈ (nar.drop p).take N := by rw [h]; exact List.mem_map.mpr ⟨j, List.mem_range.mpr hj, rfl⟩
  exact List.mem_of_mem_drop (List.mem_of_mem_take h1)
theorem g_el : ∀ (i : Nat) (q : String × List Int32), pStat[i]? = some q → ∀ j, j < q.2.length → elC q j ∈ nar := by
  intro i q hq
  match i, hq with
  | 0, hq => cases hq; exact g_mem g_e0 rfl
  | 1, hq => cases hq; exact g_mem g_e1 rfl
  | 2, hq => cases hq; exact g_mem g_e2 rfl
  | 3, hq => cases hq; exact g_mem g_e3 rfl
  | 4, hq => cases hq; exact g_mem g_e4 rfl
  | 5, hq => cases hq; exact g_mem g_e5 rfl
  | i + 6, hq => simp [pStat] at hq
