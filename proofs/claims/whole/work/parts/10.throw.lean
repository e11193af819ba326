/-! a throw of the class's own: new E, dup, ldc, its constructor, athrow -/
def pWT (k is : Nat) (tx : String) : Bool := match pX[k]? with
  | some q => decide ((is, tx) ∈ pStr) && (pIn (.classLink "LockMuseum" q.2.1 q.1) && (pIn (.initialized q.1) && (((vx_atS "LockMuseum" q.2.2 q.1 pUp).filter goodWord).all pIn && ((Cond.classLink "LockMuseum" q.2.1 q.1 :: Cond.initialized q.1 :: vx_atS "LockMuseum" q.2.2 q.1 pUp).all vx_ot && Bundle.fit q.1))))
  | none => false
theorem pUp_fit : pUp.all Bundle.fit = true := by decide +kernel
section Rows
variable {M : pT} {Q : pQ} {pc : Nat} {L : List (Nat × Value)} {st : List Value} {n : Nat} {I : pI} {J : pJ} {P : pP} {kc ks : Nat}
theorem pw_throw {k is ik ic : Nat} {E tx : String} (hk9 : pX[k]? = some (E, ik, ic)) (hw : pWT k is tx = true) (ho9 : pT.own M = "LockMuseum") (hh : pT.hh M = [])
    (d0 : decode (pT.cc M) pc = .ok (.new ik, 3)) (d3 : decode (pT.cc M) (pc + 3) = .ok (.dup, 1)) (d4 : decode (pT.cc M) (pc + 4) = .ok (.ldc is, 2)) (d6 : decode (pT.cc M) (pc + 6) = .ok (.invokespecial ic, 3)) (d9 : decode (pT.cc M) (pc + 9) = .ok (.athrow, 1))
    (hRf : 5 < (pT.R M).frames) (hRl : (st.map fun v => v.category).sum + 82 ≤ (pT.R M).locals) (hc : kc + 1 ≤ (pT.R M).cells) (hs : ks + 6 ≤ (pT.R M).slots) (hq : Q (.inr E) n I J P) : PW M Q pc L st n I J P kc ks := by
  intro V A p l e s m args below meth c H locs ls C hP hS hn hz hl
  obtain ⟨hx, hb, hr, hml, hown, hts, hlo, htb, hK, hA, hF, hst, hE⟩ := id C
  rw [pWT, hk9] at hw
  simp only [Bool.and_eq_true, decide_eq_true_eq] at hw
  obtain ⟨w1, w2, w3, w4, w5, w6⟩ := hw
  obtain ⟨sa, hstr⟩ := hF.2.2.2.2.1 _ w1
  rw [ho9] at hown
  have hodd : ∀ w ∈ (vx_atS "LockMuseum" ic E pUp).filter (fun w => !goodWord w), w ∈ pOdd := fun w h => List.mem_append_right _ (List.mem_flatMap.mpr ⟨(E, ik, ic), List.mem_of_getElem? hk9, h⟩)
  have hsum : ((st.map (rv V)).map fun v => v.category).sum = (st.map fun v => v.category).sum := by simp [List.map_map, Function.comp_def, rv_cat]
  refine vx_throwS (free := A) (A := A) (names := pUp) (text := tx) hx hb hst hown w6 (fun n hn => List.all_eq_true.mp pUp_fit n hn) (hts _ (pIn_mem w2)) (hts _ (pIn_mem w3)) hstr
    (vx_hat (B := pOdd) (fun w hw => hts _ (pIn_mem (List.all_eq_true.mp w4 w hw))) hodd (fun w hw => pCD_use (List.all_eq_true.mp pOdd_cd w hw) (hF.2.2.2.2.2.1 w hw))) (fun w hw => List.all_eq_true.mp w5 w hw) hF.2.2.1 hF.2.2.2.1 hS (hl.1.trans hml.symm) d0 d3 d4 d6 d9 (by rw [htb, hh]; intro x hx; cases hx) (by exact hRf) (by rw [hsum]; exact hRl) hc hs hlo ?_ hS.2.2 hc hs
  intro t hal hsz hkeep
  have hP' : va_P (pEnv.D V) vwCl (wl V n I J P) t.heap := hP.kept (fun k q hq9 => hkeep q.1 (hP k q hq9).lt)
  refine ⟨⟨n, I, J, P, hq, hn, hP', va_K.moved hal hK, Nat.le_trans hz hsz⟩, Nat.le_trans hS.1 hsz, fun q h1 h2 => (hkeep q (Nat.lt_of_lt_of_le h1 hS.1)).trans (hS.2.1 q h1 h2)⟩
end Rows
