/-! rows that read and write the memory; returns; a method's entry -/
/-- a field's link among the good words, and the field is there -/
def pC (ci : Nat) : vw_C := vwCl.getD ci ("", TX0, 0)
def pTy (ci : Nat) : Nat → FieldType := match ci with
  | 0 => tyX0
  | 1 => tyX1
  | 2 => tyX2
  | 3 => tyX3
  | 4 => tyX4
  | 5 => tyX5
  | _ => tyX6
theorem pTy_ok : ∀ ci, ci < 7 → ∀ k, k < (pC ci).2.2 → parseFieldDescriptor ((pC ci).2.1 k).2.2.1 = some (pTy ci k) := by
  intro ci h
  match ci, h with
  | 0, _ => exact tyX0_ok
  | 1, _ => exact tyX1_ok
  | 2, _ => exact tyX2_ok
  | 3, _ => exact tyX3_ok
  | 4, _ => exact tyX4_ok
  | 5, _ => exact tyX5_ok
  | 6, _ => exact tyX6_ok
theorem pNm : ∀ ci, ci < 7 → ∀ a, a < (pC ci).2.2 → ∀ b, b < (pC ci).2.2 → a ≠ b → ((pC ci).2.1 a).2.1 ≠ ((pC ci).2.1 b).2.1 := by
  intro ci h
  match ci, h with
  | 0, _ => exact nmX0
  | 1, _ => exact nmX1
  | 2, _ => exact nmX2
  | 3, _ => exact nmX3
  | 4, _ => exact nmX4
  | 5, _ => exact nmX5
  | 6, _ => exact nmX6
theorem pC_at : ∀ ci, ci < 7 → vwCl[ci]? = some ((pC ci).1, (pC ci).2.1, (pC ci).2.2) := by
  intro ci h
  match ci, h with
  | 0, _ => rfl
  | 1, _ => rfl
  | 2, _ => rfl
  | 3, _ => rfl
  | 4, _ => rfl
  | 5, _ => rfl
  | 6, _ => rfl
theorem pC_n : ∀ ci, ci < 7 → (pC ci).2.2 = pN ci := by
  intro ci h
  match ci, h with
  | 0, _ => rfl
  | 1, _ => rfl
  | 2, _ => rfl
  | 3, _ => rfl
  | 4, _ => rfl
  | 5, _ => rfl
  | 6, _ => rfl
set_option maxRecDepth 100000 in
theorem pWs0 : ((List.range 7).all fun ci => (u_ws (pC ci).1 (pC ci).2.1 (pC ci).2.2).all pIn) = true := by decide +kernel
theorem pWs {ci : Nat} (h : ci < 7) : ∀ w ∈ u_ws (pC ci).1 (pC ci).2.1 (pC ci).2.2, w ∈ pww := by
  intro w hw
  have h1 := List.all_eq_true.mp pWs0 ci (List.mem_range.mpr h)
  exact pIn_mem (List.all_eq_true.mp h1 w hw)
def pFL (own : String) (idx ci k : Nat) : Bool := pIn (.fieldLink own idx ((pC ci).2.1 k).1 ((pC ci).2.1 k).2.1 ((pC ci).2.1 k).2.2.1) && (decide (ci < 7) && decide (k < pN ci))
theorem pF_at {V : pEnv} {I : pI} {P : pP} {ci a k : Nat} (h : k < pN ci) : ((List.range (pN ci)).map (fun k => pF V I P ci a k))[k]? = some (pF V I P ci a k) := by simp [h]
theorem pF_set {V : pEnv} {I I' : pI} {P P' : pP} {ci a k : Nat} {v : Value} (h : k < pN ci) (hv : pF V I' P' ci a k = v) (ho : ∀ j, j ≠ k → pF V I' P' ci a j = pF V I P ci a j) :
    ((List.range (pN ci)).map (fun k => pF V I P ci a k)).set k v = (List.range (pN ci)).map (fun k => pF V I' P' ci a k) := by
  apply List.ext_getElem?
  intro i
  by_cases hi : i < pN ci
  · by_cases hk : i = k
    · subst hk
      rw [List.getElem?_set_self (by simpa using hi)]
      simp [hi, hv]
    · rw [List.getElem?_set_ne (fun q => hk q.symm)]
      simp [hi, ho i hk]
  · rw [List.getElem?_eq_none (by simpa using hi), List.getElem?_eq_none (by simpa using hi)]
section Rows
variable {M : pT} {Q : pQ} {pc : Nat} {L : List (Nat × Value)} {st : List Value} {n : Nat} {I : pI} {J : pJ} {P : pP} {kc ks : Nat}
theorem pw_get {a idx ci k : Nat} {v : Value} (hd : decode (pT.cc M) pc = .ok (.getfield idx, 3)) (hw : pFL (pT.own M) idx ci k = true) (hk : (pS a).1 = ci) (ha : a < n) (hn9 : n ≤ 1000)
    (hv : ∀ V, pF V I P ci a k = rv V v) (kk : PW M Q (pc + 3) L (v :: st) n I J P kc ks) : PW M Q pc L (.ref a :: st) n I J P kc ks := by
  intro V A p l e s m args below meth c H locs ls C hP hS hn hz hl
  simp only [pFL, Bool.and_eq_true, decide_eq_true_eq] at hw
  obtain ⟨hw, hci, hkn⟩ := hw
  obtain ⟨hx, hb, hr, hml, hown, hts, hlo, htb, hK, hA, hF, hst, hE⟩ := id C
  have e1 : (rv V (.ref a)) = .ref (pEnv.b V + a) := by show Value.ref (ra V a) = _; rw [ra_lt V (by omega)]
  rw [List.map_cons, e1]
  refine va_get (D := pEnv.D V) (ci := ci) (v := rv V v) (C := (pC ci).1) (T := (pC ci).2.1) (N := (pC ci).2.2) hx hb hts (pWs hci) hown hK hP a (fs := (List.range (pN ci)).map (fun k => pF V I P ci a k)) ?_ (pC_at ci hci) k (by rw [pC_n ci hci]; exact hkn) (hts _ (pIn_mem hw)) (fun _ h => h) ?_ hd (kk V A p l e s m args below meth c H locs ls C hP hS hn hz hl)
  · rw [wl_at V I J P ha, pE_obj hk hci]
  · rw [pF_at hkn, hv V]
theorem pw_geti {a idx ci k : Nat} (hd : decode (pT.cc M) pc = .ok (.getfield idx, 3)) (hw : pFL (pT.own M) idx ci k = true) (hr : pRf ci k = false) (hk : (pS a).1 = ci) (ha : a < n) (hn9 : n ≤ 1000)
    (kk : PW M Q (pc + 3) L (.int (I a k) :: st) n I J P kc ks) : PW M Q pc L (.ref a :: st) n I J P kc ks :=
  pw_get hd hw hk ha hn9 (fun V => by unfold pF; rw [hr]; rfl) kk
theorem pw_getr {a idx ci k x : Nat} (hd : decode (pT.cc M) pc = .ok (.getfield idx, 3)) (hw : pFL (pT.own M) idx ci k = true) (hr : pRf ci k = true) (hk : (pS a).1 = ci) (ha : a < n) (hn9 : n ≤ 1000) (hx : P a k = some x)
    (kk : PW M Q (pc + 3) L (.ref x :: st) n I J P kc ks) : PW M Q pc L (.ref a :: st) n I J P kc ks :=
  pw_get hd hw hk ha hn9 (fun V => by unfold pF; rw [hr, hx]; rfl) kk
/-- a whole number or a truth value is put -/
theorem pw_puti {a idx ci k : Nat} {x : Int32} (hd : decode (pT.cc M) pc = .ok (.putfield idx, 3)) (hw : pFL (pT.own M) idx ci k = true) (hr : pRf ci k = false) (hf : ((pC ci).2.1 k).2.2.2 = false) (hx9 : narrow (pTy ci k) (.int x) = .int x) (hy9 : fits (pTy ci k) (.int x) = true) (hk : (pS a).1 = ci) (ha : a < n) (hn9 : n ≤ 1000)
    (kk : PW M Q (pc + 3) L st n (upI I a k x) J P kc ks) : PW M Q pc L (.int x :: .ref a :: st) n I J P kc ks := by
  intro V A p l e s m args below meth c H locs ls C hP hS hn hz hl
  simp only [pFL, Bool.and_eq_true, decide_eq_true_eq] at hw
  obtain ⟨hw, hci, hkn⟩ := hw
  obtain ⟨hx, hb, hr', hml, hown, hts, hlo, htb, hK, hA, hF, hst, hE⟩ := id C
  have e1 : (rv V (.ref a)) = .ref (pEnv.b V + a) := by show Value.ref (ra V a) = _; rw [ra_lt V (by omega)]
  rw [List.map_cons, List.map_cons, e1]
  have hsz : ∀ (H1 : Heap) (locs1 : List Loc), va_S A H H1 locs1 → pEnv.b V + n ≤ H1.size := fun H1 _ h => Nat.le_trans hz h.1
  refine va_put (D := pEnv.D V) (ci := ci) (v := .int x) (ty := pTy ci k) (C := (pC ci).1) (T := (pC ci).2.1) (N := (pC ci).2.2) hx hb hts (pWs hci) (pTy ci) (pTy_ok ci hci) (pNm ci hci) hown hK hP (wl_D hn) (H0 := H) (locs := locs) ⟨Nat.le_refl _, fun _ _ _ => rfl, hS.2.2⟩ a (fs := (List.range (pN ci)).map (fun k => pF V I P ci a k)) ?_ (pC_at ci hci) k (by rw [pC_n ci hci]; exact hkn) (hts _ (pIn_mem hw)) (fun _ h => h) hf (pTy_ok ci hci k (by rw [pC_n ci hci]; exact hkn)) hx9 hy9 (by simpa using hkn) hd (fun H1 locs1 hP1 hD1 hS1 => ?_)
  · rw [wl_at V I J P ha, pE_obj hk hci]
  · have e2 : (wl V n I J P).set a (pEnv.b V + a, .inr (ci, ((List.range (pN ci)).map (fun k => pF V I P ci a k)).set k (.int x))) = wl V n (upI I a k x) J P := by
      refine wl_set ha ?_ (fun a' h => pE_congr (upI_row h) rfl rfl)
      rw [pE_obj hk hci, pF_set (I' := upI I a k x) (P' := P) hkn]
      · unfold pF; rw [hr, if_neg (by decide), upI_s]
      · intro j hj; unfold pF; rw [upI_k hj]
    rw [e2] at hP1
    exact kk V A p l e s m args below meth c H1 locs1 ls C hP1 ⟨Nat.le_trans hS.1 hS1.1, fun q h1 h2 => (hS1.2.1 q (Nat.lt_of_lt_of_le h1 hS.1) h2).trans (hS.2.1 q h1 h2), hS1.2.2⟩ hn (Nat.le_trans hz hS1.1) hl
end Rows
