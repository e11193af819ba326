/-! OBJECTS ARE MADE: rows, and contracts of constructors -/
def zI (I : pI) (n : Nat) : pI := fun a k => if a = n then 0 else I a k
def zJ (J : pJ) (n : Nat) : pJ := fun a k => if a = n then 0 else J a k
def zP (P : pP) (n : Nat) : pP := fun a k => if a = n then none else P a k
theorem zI_row {I : pI} {n a : Nat} (h : a ≠ n) : zI I n a = I a := by funext k; exact if_neg h
theorem zJ_row {J : pJ} {n a : Nat} (h : a ≠ n) : zJ J n a = J a := by funext k; exact if_neg h
theorem zP_row {P : pP} {n a : Nat} (h : a ≠ n) : zP P n a = P a := by funext k; exact if_neg h
theorem wl_succ {V : pEnv} {n : Nat} {I I' : pI} {J J' : pJ} {P P' : pP} (h : ∀ a, a < n → pE V I' J' P' a = pE V I J P a) : wl V (n + 1) I' J' P' = wl V n I J P ++ [(pEnv.b V + n, pE V I' J' P' n)] := by
  unfold wl
  rw [List.range_succ, List.map_append]
  congr 1
  exact List.map_congr_left (fun a ha => by rw [h a (List.mem_range.mp ha)])
theorem pDef : ∀ ci, ci < 7 → ∀ k, k < pN ci → defaultValue (pTy ci k) = if pRf ci k = true then .null else .int 0 := by
  intro ci h
  match ci, h with
  | 0, _ => intro k hk; have : k < 6 := hk; rcases (show k = 0 ∨ k = 1 ∨ k = 2 ∨ k = 3 ∨ k = 4 ∨ k = 5 by omega) with rfl | rfl | rfl | rfl | rfl | rfl <;> rfl
  | 1, _ => intro k hk; have : k < 3 := hk; rcases (show k = 0 ∨ k = 1 ∨ k = 2 by omega) with rfl | rfl | rfl <;> rfl
  | 2, _ => intro k hk; have : k < 4 := hk; rcases (show k = 0 ∨ k = 1 ∨ k = 2 ∨ k = 3 by omega) with rfl | rfl | rfl | rfl <;> rfl
  | 3, _ => intro k hk; have : k < 14 := hk; rcases (show k = 0 ∨ k = 1 ∨ k = 2 ∨ k = 3 ∨ k = 4 ∨ k = 5 ∨ k = 6 ∨ k = 7 ∨ k = 8 ∨ k = 9 ∨ k = 10 ∨ k = 11 ∨ k = 12 ∨ k = 13 by omega) with rfl | rfl | rfl | rfl | rfl | rfl | rfl | rfl | rfl | rfl | rfl | rfl | rfl | rfl <;> rfl
  | 4, _ => intro k hk; have : k < 1 := hk; rcases (show k = 0 by omega) with rfl; rfl
  | 5, _ => intro k hk; have : k < 4 := hk; rcases (show k = 0 ∨ k = 1 ∨ k = 2 ∨ k = 3 by omega) with rfl | rfl | rfl | rfl <;> rfl
  | 6, _ => intro k hk; have : k < 24 := hk; rcases (show k = 0 ∨ k = 1 ∨ k = 2 ∨ k = 3 ∨ k = 4 ∨ k = 5 ∨ k = 6 ∨ k = 7 ∨ k = 8 ∨ k = 9 ∨ k = 10 ∨ k = 11 ∨ k = 12 ∨ k = 13 ∨ k = 14 ∨ k = 15 ∨ k = 16 ∨ k = 17 ∨ k = 18 ∨ k = 19 ∨ k = 20 ∨ k = 21 ∨ k = 22 ∨ k = 23 by omega) with rfl | rfl | rfl | rfl | rfl | rfl | rfl | rfl | rfl | rfl | rfl | rfl | rfl | rfl | rfl | rfl | rfl | rfl | rfl | rfl | rfl | rfl | rfl | rfl <;> rfl
theorem vpV_map {N : Nat} {f : Nat → Value} {j : Nat} (h : j < N) : vp_V ((List.range N).map f) j = f j := by
  unfold vp_V; simp [h]
theorem OVs.moved {u E : State} (hal : u.vm.Alike E.vm) (h : OVs u) : OVs E := by
  intro a C hC
  obtain ⟨comp, c, k, hc, hi, hk, hkind, hn⟩ := Cond.arrayOver_spec (h a C hC)
  have e1 : E.vm.findClass C = some comp := by first | (rw [← hal.findClass]; exact hc) | (rw [hal.findClass]; exact hc)
  have e3 : E.vm.findClass ("[" ++ (FieldType.object C).toString) = some c := by first | (rw [← hal.findClass]; exact hn) | (rw [hal.findClass]; exact hn)
  have e2 : (E.vm.classes.findIdx? fun x => match x.kind with | .array component _ => component == comp | _ => false) = some c := by
    rw [hal.findIdx?_eq _ (fun _ => rfl)]; exact hi
  obtain ⟨k', hk', he⟩ := hal.2.2 _ _ hk
  have hkind' : k'.kind = .array comp (.object C) := by rw [he]; exact hkind
  simp only [Cond.before, Cond.holds, Cond.value, beq_iff_eq, e1, e2, hk', Option.bind_some, Option.map_some, hkind']
  simp [e3]
  refine Option.bind_eq_some_iff.mpr ⟨c, e2, ?_⟩
  simp [hk', hkind']
theorem sizeS {p : Program} {l : Launch} {e : Env} {R : Room} {s : State} {m : MethodId} {args : Array Value} {below : List Frame} {meth : Method} {c : Code} {T : State} {locs : List Loc} {kc ks : Nat} (X : Stand p l e R s m args below meth c T locs kc ks) : T.heap.size ≤ s.heap.size + kc := by
  obtain ⟨-, -, h3, -⟩ := X.same
  exact h3
theorem va_P1 {D : va_G} {cl : List vw_C} {q : Nat} {e : va_E} {H : Heap} (h : va_at D cl (q, e) H) : va_P D cl [(q, e)] H := fun k x hx => by
  have hz : k < 1 := (List.getElem?_eq_some_iff.mp hx).1
  rw [show k = 0 by omega] at hx
  cases hx
  exact h
section Rows
variable {M : pT} {Q Q' : pQ} {pc : Nat} {L : List (Nat × Value)} {st : List Value} {n : Nat} {I : pI} {J : pJ} {P : pP} {kc ks : Nat}
theorem pw_size {n0 : Nat} {i : Bool} {X : pEnv → (Nat → Prop) → State → Prop} {V : pEnv} {A : Nat → Prop} {p : Program} {l : Launch} {e : Env} {s : State} {m : MethodId} {args : Array Value} {below : List Frame} {meth : Method} {c : Code} {T : State} {locs : List Loc} {H : Heap} (hz9 : pT.z M = some (n0, i, X)) (hk9 : n0 + kc = n) (C : pCx M V A p l s m args meth c) (hz : pEnv.b V + n ≤ H.size) (hT : T.heap = H) (X9 : Stand p l e (pT.R M) s m args below meth c T locs kc ks) : H.size = pEnv.b V + n := by
  obtain ⟨-, -, -, -, -, -, -, -, -, -, -, -, hE⟩ := C
  have h1 := (hE n0 i X hz9).1
  have h2 := sizeS X9
  rw [hT] at h2
  omega
def pWNw (own : String) (idx ci : Nat) : Bool := pIn (.classLink own idx (pC ci).1) && (pIn (.instantiable (pC ci).1 (pN ci)) && (pIn (.initialized (pC ci).1) && decide (ci < 7)))
set_option maxHeartbeats 100000 in
theorem ra_cls {V : pEnv} {s : State} {t : Nat} {cA cB : ClassId} {ty : FieldType} (hK : va_K (pEnv.D V) vwCl (pTys V) s) (ht : (pTys V)[t]? = some (cB, ty)) (hf : s.vm.findClass ("[" ++ ty.toString) = some cA) : cA = cB := by
  have h := (hK.2 t _ ht).2
  have h2 : s.vm.findClass ("[" ++ ty.toString) = some cB := by
    cases ty with
    | object C => obtain ⟨_, _, _, _, _, h⟩ := h; exact h
    | _ => exact h
  exact Option.some.inj (hf.symm.trans h2)
set_option maxHeartbeats 100000 in
set_option maxHeartbeats 100000 in
set_option maxHeartbeats 100000 in
set_option maxHeartbeats 100000 in
set_option maxHeartbeats 100000 in
theorem pw_stC {a N x : Nat} {j : Int32} (hd : decode (pT.cc M) pc = .ok (.aastore, 1)) (hk : pS a = (10, N)) (ha : a < n) (hx9 : (pS x).1 = 0) (hxn : x < n) (hn9 : n ≤ 1000) (hi : vp_in j N)
    (kk : PW M Q (pc + 1) L st n I J (upP P a j.toNatClampNeg (some x)) kc ks) : PW M Q pc L (.ref x :: .int j :: .ref a :: st) n I J P kc ks := by
  intro V A p l e s m args below meth c H locs ls C hP hS hn hz hl
  obtain ⟨hx, hb, hr, hml, hown, hts, hlo, htb, hK, hA, hF, hst, hE⟩ := id C
  rw [List.map_cons, List.map_cons, List.map_cons, rv_lt V (by omega), rv_lt V (by omega)]
  refine va_astq (r := pC 0) hx hb hK hP (wl_D hn) (pS_rf hS) a 3 x 0 (by rw [wl_at V I J P ha, pE_refC hk]) rfl (by rw [wl_at V I J P hxn, pE_obj hx9 (by decide)]) rfl hi hd (fun H1 locs1 hP1 hD1 hS1 => ?_)
  rw [wl_set (I' := I) (J' := J) (P' := upP P a j.toNatClampNeg (some x)) ha (by
    rw [pE_refC hk]
    congr 7
    funext j'
    unfold va_up upP
    by_cases e : j' = j.toNatClampNeg
    · simp [e, ra_lt V (show x < 1000 by omega)]
    · simp [e]) (fun a' h => pE_congr rfl rfl (upP_row h))] at hP1
  exact kk V A p l e s m args below meth c H1 locs1 ls C hP1 (pS_trans hS hS1) hn (Nat.le_trans hz hS1.1) hl
set_option maxHeartbeats 100000 in
set_option maxHeartbeats 100000 in
theorem pw_stN {a N x : Nat} {j : Int32} (hd : decode (pT.cc M) pc = .ok (.aastore, 1)) (hk : pS a = (11, N)) (ha : a < n) (hx9 : (pS x).1 = 2) (hxn : x < n) (hn9 : n ≤ 1000) (hi : vp_in j N)
    (kk : PW M Q (pc + 1) L st n I J (upP P a j.toNatClampNeg (some x)) kc ks) : PW M Q pc L (.ref x :: .int j :: .ref a :: st) n I J P kc ks := by
  intro V A p l e s m args below meth c H locs ls C hP hS hn hz hl
  obtain ⟨hx, hb, hr, hml, hown, hts, hlo, htb, hK, hA, hF, hst, hE⟩ := id C
  rw [List.map_cons, List.map_cons, List.map_cons, rv_lt V (by omega), rv_lt V (by omega)]
  refine va_astq (r := pC 2) hx hb hK hP (wl_D hn) (pS_rf hS) a 4 x 2 (by rw [wl_at V I J P ha, pE_refI hk]) rfl (by rw [wl_at V I J P hxn, pE_obj hx9 (by decide)]) rfl hi hd (fun H1 locs1 hP1 hD1 hS1 => ?_)
  rw [wl_set (I' := I) (J' := J) (P' := upP P a j.toNatClampNeg (some x)) ha (by
    rw [pE_refI hk]
    congr 7
    funext j'
    unfold va_up upP
    by_cases e : j' = j.toNatClampNeg
    · simp [e, ra_lt V (show x < 1000 by omega)]
    · simp [e]) (fun a' h => pE_congr rfl rfl (upP_row h))] at hP1
  exact kk V A p l e s m args below meth c H1 locs1 ls C hP1 (pS_trans hS hS1) hn (Nat.le_trans hz hS1.1) hl
def pWF (own : String) (ci k : Nat) : Bool := decide (((pC ci).2.1 k).2.2.2 = true) && decide (((pC ci).2.1 k).1 = own)
set_option maxHeartbeats 100000 in
theorem pw_putr {a idx ci k x n0 : Nat} {X : pEnv → (Nat → Prop) → State → Prop} (hd : decode (pT.cc M) pc = .ok (.putfield idx, 3)) (hz9 : pT.z M = some (n0, true, X)) (hw : pFL (pT.own M) idx ci k = true) (hwf : pWF (pT.own M) ci k = true) (hr : pRf ci k = true) (hx9 : ∀ q, narrow (pTy ci k) (.ref q) = .ref q) (hy9 : ∀ q, fits (pTy ci k) (.ref q) = true) (hk : (pS a).1 = ci) (ha : a < n) (hxn : x < n) (hn9 : n ≤ 1000)
    (kk : PW M Q (pc + 3) L st n I J (upP P a k (some x)) kc ks) : PW M Q pc L (.ref x :: .ref a :: st) n I J P kc ks := by
  intro V A p l e s m args below meth c H locs ls C hP hS hn hz hl
  simp only [pFL, Bool.and_eq_true, decide_eq_true_eq] at hw
  obtain ⟨hw, hci, hkn⟩ := hw
  simp only [pWF, Bool.and_eq_true, decide_eq_true_eq] at hwf
  obtain ⟨hx, hb, hr', hml, hown, hts, hlo, htb, hK, hA, hF, hst, hE⟩ := id C
  rw [List.map_cons, List.map_cons, rv_lt V (by omega), rv_lt V (by omega)]
  refine va_putF (D := pEnv.D V) (ci := ci) (v := .ref (pEnv.b V + x)) (ty := pTy ci k) (C := (pC ci).1) (T := (pC ci).2.1) (N := (pC ci).2.2) hx hb hts (pWs hci) (pTy ci) (pTy_ok ci hci) (pNm ci hci) hown hK hP (wl_D hn) (H0 := H) (locs := locs) ⟨Nat.le_refl _, fun _ _ _ => rfl, hS.2.2⟩ a (fs := (List.range (pN ci)).map (fun k => pF V I P ci a k)) ?_ (pC_at ci hci) k (by rw [pC_n ci hci]; exact hkn) (hts _ (pIn_mem hw)) (fun _ h => h) hwf.1 ((hE n0 true X hz9).2.1 rfl) hwf.2 (pTy_ok ci hci k (by rw [pC_n ci hci]; exact hkn)) (hx9 _) (hy9 _) (by simpa using hkn) hd (fun H1 locs1 hP1 hD1 hS1 => ?_)
  · rw [wl_at V I J P ha, pE_obj hk hci]
  · have e2 : (wl V n I J P).set a (pEnv.b V + a, .inr (ci, ((List.range (pN ci)).map (fun k => pF V I P ci a k)).set k (.ref (pEnv.b V + x)))) = wl V n I J (upP P a k (some x)) := by
      refine wl_set ha ?_ (fun a' h => pE_congr rfl rfl (upP_row h))
      rw [pE_obj hk hci, pF_set (I' := I) (P' := upP P a k (some x)) hkn]
      · unfold pF; rw [hr, if_pos rfl]; simp [upP, va_rf, ra_lt V (show x < 1000 by omega)]
      · intro j hj; unfold pF; simp [upP, hj]
    rw [e2] at hP1
    exact kk V A p l e s m args below meth c H1 locs1 ls C hP1 ⟨Nat.le_trans hS.1 hS1.1, fun q h1 h2 => (hS1.2.1 q (Nat.lt_of_lt_of_le h1 hS.1) h2).trans (hS.2.1 q h1 h2), hS1.2.2⟩ hn (Nat.le_trans hz hS1.1) hl
theorem pw_obj {a idx : Nat} (hd : decode (pT.cc M) pc = .ok (.invokespecial idx, 3)) (hw : (pIn (.methodLink (pT.own M) idx Lib.objectInit) && (pIn (.instanceMethod Lib.objectInit) && pIn (.code Lib.objectInit ⟨#[0xb1]⟩ 1 none))) = true) (hf : 1 ≤ (pT.R M).frames) (hlo9 : (st.map fun v => v.category).sum + 12 ≤ (pT.R M).locals)
    (kk : PW M Q (pc + 3) L st n I J P kc ks) : PW M Q pc L (.ref a :: st) n I J P kc ks := by
  intro V A p l e s m args below meth c H locs ls C hP hS hn hz hl
  simp only [Bool.and_eq_true] at hw
  obtain ⟨hx, hb, hr, hml, hown, hts, hlo, htb, hK, hA, hF, hst, hE⟩ := id C
  rw [List.map_cons]
  refine W.objInit hx hb hown (hts _ (pIn_mem hw.1)) (hts _ (pIn_mem hw.2.1)) (hts _ (pIn_mem hw.2.2)) rfl (hl.1.trans hml.symm) rfl hd hf ?_ (kk V A p l e s m args below meth c H locs ls C hP hS hn hz hl)
  have e9 : ((st.map (rv V)).map fun v => v.category) = st.map fun v => v.category := by simp [List.map_map, Function.comp_def, rv_cat]
  rw [e9]
  simpa [JFrame.monitorRoom] using hlo9
/-- a contract of a method in which objects are made: nothing lies behind the world's cells -/
def pMetZ (y : MethodName) (ws : List Cond) (rm : Room) (as : List Value) (n : Nat) (I : pI) (J : pJ) (P : pP) (Q : pQ) : Prop :=
  ∀ (l : Launch) (V : pEnv), l.stackTraces = false → vx_Met l y ws rm (fun a U => pPc V as n I J P (pEnv.b V + n) a U ∧ OVs U) (pQc V Q (pA (pEnv.b V) n (pEnv.b V + n))) (pXC V Q (pA (pEnv.b V) n (pEnv.b V + n))) rm.cells rm.slots (pA (pEnv.b V) n (pEnv.b V + n))
def pWI (own : String) (idx : Nat) (y : MethodName) (cc : ByteArray) (nL : Nat) (na : Nat) : Bool :=
  (pIn (.methodLink own idx y) || decide ((own, idx, y, "LockMuseum") ∈ pNest)) && (pIn (.instanceMethod y) && (pIn (.initialized y.cls) && (pIn (.code y cc nL none) && (decide (y.name = "<init>") && (decide (y.cls ≠ "java/lang/invoke/MethodHandle" ∧ y.cls ≠ "java/lang/invoke/VarHandle") && decide ((parseMethodDescriptor y.desc).map (fun d => d.parameters.length) = some na))))))
theorem pw_callI {y : MethodName} {cc : ByteArray} {nL : Nat} {rm : Room} {as st0 : List Value} {a idx n0 : Nat} {i : Bool} {X : pEnv → (Nat → Prop) → State → Prop} (hd : decode (pT.cc M) pc = .ok (.invokespecial idx, 3)) (hM : pMetZ y (pws y cc nL none) rm (.ref a :: as) n I J P Q') (hno : ∀ E n' I' J' P', ¬ Q' (.inr E) n' I' J' P') (hz9 : pT.z M = some (n0, i, X)) (hk9 : n0 + kc = n) (hw : pWI (pT.own M) idx y cc nL as.length = true) (ha : a < 1000) (hh : pT.hh M = [])
    (hR : rm.frames + 1 ≤ (pT.R M).frames ∧ 8 + (nL + 11) + rm.locals ≤ (pT.R M).locals) (hc : kc + rm.cells ≤ (pT.R M).cells) (hs : ks + rm.slots ≤ (pT.R M).slots) (h0 : st0 = as.reverse ++ .ref a :: st) (h8 : (st.map fun v => v.category).sum ≤ 8)
    (kk : ∀ r n' I' J' P', Q' (.inl r) n' I' J' P' → PW M Q (pc + 3) L (r.toList ++ st) n' I' J' P' (kc + rm.cells) (ks + rm.slots)) : PW M Q pc L st0 n I J P kc ks := by
  intro V A p l e s m args below meth c H locs ls C hP hS hn hz hl T hT X9
  have hsz := pw_size hz9 hk9 C hz hT X9
  obtain ⟨hx, hb, hr, hml, hown, hts, hlo, htb, hK, hA, hF, hst, hE⟩ := id C
  simp only [pWI, Bool.and_eq_true, decide_eq_true_eq, Bool.or_eq_true] at hw
  obtain ⟨w1, w2, w3, w5, w6, w8, w9⟩ := hw
  have hG : GoodIn pww (pws y cc nL none) := pww_good (fun _ h => h) (pws_in w5)
  have hM' : vx_Met l y (pws y cc nL none) rm (fun a9 U => pPc V (.ref a :: as) n I J P H.size a9 U ∧ OVs U) (pQc V Q' (pA (pEnv.b V) n H.size)) (pXC V Q' (pA (pEnv.b V) n H.size)) rm.cells rm.slots (pA (pEnv.b V) n H.size) := by rw [hsz]; exact hM l V hst
  have hM2 := met_of_vx hM' (fun E st t h => by obtain ⟨⟨n', I', J', P', h, -⟩, -⟩ := h; exact hno _ _ _ _ _ h)
  have hp2 := pw_pre (as := .ref a :: as) C hP hS hn hz
  have e1 : (Value.ref a :: as).map (rv V) = .ref (pEnv.b V + a) :: as.map (rv V) := by rw [List.map_cons, rv_lt V ha]
  rw [e1] at hp2
  have hp3 : ∀ U : State, U.heap = H → s.WarmedH U.vm → pPc V (.ref a :: as) n I J P H.size (Value.ref (pEnv.b V + a) :: as.map (rv V)).toArray U ∧ OVs U := fun U h1 h2 => ⟨hp2 U h1 h2, OVs.moved h2.alike (hE n0 i X hz9).2.2.1⟩
  have hbl : FrameBlind (fun a9 U => pPc V (.ref a :: as) n I J P H.size a9 U ∧ OVs U) := fun a9 U g mk h => ⟨pPc_blind V _ n I J P H.size a9 U g mk h.1, h.2⟩
  have hst9 : (F0 m pc ls (st0.map (rv V))).stack = (as.map (rv V)).reverse ++ .ref (pEnv.b V + a) :: st.map (rv V) := by
    show st0.map (rv V) = _
    rw [h0]; simp [rv_lt V ha]
  have h89 : 2 * (F0 m pc ls (st0.map (rv V))).monitorRoom + ((st.map (rv V)).map fun v => v.category).sum ≤ 8 := by
    have e9 : ((st.map (rv V)).map fun v => v.category) = st.map fun v => v.category := by simp [List.map_map, Function.comp_def, rv_cat]
    rw [e9]; simpa [JFrame.monitorRoom] using h8
  have hrun : va_Run p l e (pT.R M) s m args below meth c H locs kc ks rm.cells rm.slots (F0 m pc ls (st0.map (rv V))) (st.map (rv V)) (pQc V Q' (pA (pEnv.b V) n H.size) ((Value.ref (pEnv.b V + a) :: as.map (rv V)).toArray)) (pA (pEnv.b V) n H.size) := by
    rcases w1 with w1 | w1
    · exact va_runI (p := p) (l := l) (e := e) (R := pT.R M) (below := below) (meth := meth) (H := H) (locs := locs) (cells := kc) (slots := ks) (g := F0 m pc ls (st0.map (rv V))) (As := as.map (rv V)) (rest := st.map (rv V)) (Ts := pww) ⟨hx, hb, hml, hown, hts⟩ hM2 (cwI as.length hts hG rfl rfl rfl (hts _ (pIn_mem w3)) (hts _ (pIn_mem w1)) (hts _ (pIn_mem w2)) w6 ⟨w8.1, w8.2, w9⟩ hR) ⟨hbl, hp3⟩ rfl (by simp) hl.1 hst9 h89 hd ⟨hc, hs⟩
    · exact va_runIN (p := p) (l := l) (e := e) (R := pT.R M) (below := below) (meth := meth) (H := H) (locs := locs) (cells := kc) (slots := ks) (g := F0 m pc ls (st0.map (rv V))) (As := as.map (rv V)) (rest := st.map (rv V)) (Ts := pww) (host := "LockMuseum") ⟨hx, hb, hml, hown, hts⟩ hM2 ⟨va_cnB as.length hts hG rfl rfl rfl (hF.1 _ w1) (hts _ (pIn_mem w3)) ⟨w8.1, w8.2, w9⟩ hR, w6, hts _ (pIn_mem w2)⟩ ⟨hbl, hp3⟩ rfl (by simp) hl.1 hst9 h89 hd ⟨hc, hs⟩
  exact pw_run (Q' := Q') (mc := rm.cells) (ms := rm.slots) C hh hS hn hl (fun T hT X => Or.inl (hrun T hT X)) hc hs (fun E n' I' J' P' h => absurd h (hno E n' I' J' P')) kk T hT X9
/-- references that don't matter -/
theorem pw_P {P' : pP} (h : ∀ a, a < n → ∀ k, ((pS a).1 < 7 → k < pN (pS a).1 → pRf (pS a).1 k = true → P a k = P' a k) ∧ (10 ≤ (pS a).1 → k < (pS a).2 → P a k = P' a k)) (kk : PW M Q pc L st n I J P' kc ks) : PW M Q pc L st n I J P kc ks := by
  intro V A p l e s m args below meth c H locs ls C hP hS hn hz hl
  refine kk V A p l e s m args below meth c H locs ls C (fun k x hx => ?_) hS hn hz hl
  have hkn : k < n := by have := (List.getElem?_eq_some_iff.mp hx).1; rwa [wl_len] at this
  rw [wl_at V I J P' hkn] at hx
  cases hx
  have h1 := hP k _ (wl_at V I J P hkn)
  by_cases c7 : (pS k).1 < 7
  · rw [pE_obj rfl c7] at h1 ⊢
    have e : (List.range (pN (pS k).1)).map (fun j => pF V I P' (pS k).1 k j) = (List.range (pN (pS k).1)).map (fun j => pF V I P (pS k).1 k j) := List.map_congr_left (fun j hj => by
      unfold pF
      by_cases hr : pRf (pS k).1 j = true
      · rw [if_pos hr, if_pos hr, (h k hkn j).1 c7 (List.mem_range.mp hj) hr]
      · rw [if_neg hr, if_neg hr])
    rw [e]; exact h1
  · by_cases c10 : (pS k).1 < 10
    · have e : pE V I J P' k = pE V I J P k := by unfold pE; rw [if_neg c7, if_neg c7, if_pos c10, if_pos c10]
      rw [e]; exact h1
    · have e : ∀ P, pE V I J P k = .inl (pEnv.cy V (pS k).1, (pS k).2, .inr (.inr (.inr (.inr (fun j => (P k j).map (ra V)))))) := fun P => by
        unfold pE; rw [if_neg c7, if_neg (by omega), if_neg c10]
      rw [e] at h1 ⊢
      have h2 : H[pEnv.b V + k]? = some (vp_cell _ _) := h1
      show H[pEnv.b V + k]? = some (vp_cell _ _)
      rw [h2, vp_cell_q, vp_cell_q]
      unfold arrV
      congr 2
      refine Array.ext (by simp) (fun j hj1 hj2 => ?_)
      have hj : j < (pS k).2 := by simpa using hj1
      simp [(h k hkn j).2 (by omega) hj]
end Rows
theorem pMetZ_of {y : MethodName} {cc : ByteArray} {nL : Nat} {ret : Option FieldType} {rm : Room} {as : List Value} {n : Nat} {I : pI} {J : pJ} {P : pP} {Q : pQ} {i : Bool} (hy : plainName y.cls = true) (hi : i = true → y.name = "<init>") (hlen : (lg_sl as).length ≤ nL)
    (k : PW (y.cls, cc, nL, ret, rm, [], some (n, i, fun _ _ _ => True)) Q 0 (lv_args 0 as) [] n I J P 0 0) : pMetZ y (pws y cc nL ret) rm as n I J P Q := by
  intro l V hst
  refine vx_ofW (cc := cc) (maxL := nL) (ret := ret) hy rfl ?_
  intro p e s m args below meth c s₁ B hml htab hv
  obtain ⟨⟨rfl, hsz, ⟨hP, hK, hz⟩, hF⟩, hov⟩ := hv
  have hts := atoms_spec (ws := pws y cc nL ret) B.pre
  have hown : s.vm.findClass y.cls = some m.cls := findClass_of_methodNamed B.named
  have hlen' : (lg_sl (as.map (rv V))).length ≤ nL := by
    have : (lg_sl (as.map (rv V))).length = (lg_sl as).length := by
      unfold lg_sl
      clear hlen k hP hz hF B hts
      induction as with
      | nil => rfl
      | cons v t ih =>
        simp only [List.map_cons, List.flatMap_cons, List.length_append, ih, rv_cat]
        congr 1
        split <;> rfl
    omega
  have hl := lv_entry (as.map (rv V)) (n := nL) hlen'
  rw [lg_entry_eq]
  rw [lv_args_map] at hl
  have htb : c.exceptionTable.toList = tableOf [] := by
    cases h9 : c.exceptionTable.toList with
    | nil => rfl
    | cons x t => exact absurd (by rw [h9]; exact List.mem_cons_self) (htab x)
  have hnm : i = true → meth.name = "<init>" := fun h9 => by
    rw [← hi h9]
    exact (name_of_methodNamed B.named B.method).1
  exact k V (pA (pEnv.b V) n (pEnv.b V + n)) p l e s m _ below meth c s.heap [] _ ⟨B.exec, B.bytes, B.returns, hml, hown, fun w h => hts w (List.mem_cons_of_mem _ h), B.notSynchronized, htb, hK, fun q h => Or.inr (by rw [← hsz]; exact h), hF, hst, fun n1 i1 X1 h9 => by cases h9; exact ⟨hsz, hnm, hov, trivial⟩⟩ hP va_S.rf (fun a h => Or.inl ⟨by omega, by omega⟩) hz hl
