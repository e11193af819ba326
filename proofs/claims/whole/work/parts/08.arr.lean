/-! arrays, statics, constants, returns, entry -/
section Rows
variable {M : pT} {Q : pQ} {pc : Nat} {L : List (Nat × Value)} {st : List Value} {n : Nat} {I : pI} {J : pJ} {P : pP} {kc ks : Nat}
theorem rv_lt (V : pEnv) {a : Nat} (h : a < 1000) : rv V (.ref a) = .ref (pEnv.b V + a) := by show Value.ref (ra V a) = _; rw [ra_lt V h]
theorem pS_trans {A : Nat → Prop} {H0 H H1 : Heap} {locs locs1 : List Loc} (hS : va_S A H0 H locs) (h : va_S A H H1 locs1) : va_S A H0 H1 locs1 :=
  ⟨Nat.le_trans hS.1 h.1, fun q h1 h2 => (h.2.1 q (Nat.lt_of_lt_of_le h1 hS.1) h2).trans (hS.2.1 q h1 h2), h.2.2⟩
theorem pS_rf {A : Nat → Prop} {H0 H : Heap} {locs : List Loc} (hS : va_S A H0 H locs) : va_S A H H locs := ⟨Nat.le_refl _, fun _ _ _ => rfl, hS.2.2⟩
theorem pw_iald {a N : Nat} {i : Int32} (hd : decode (pT.cc M) pc = .ok (.iaload, 1)) (hk : pS a = (7, N)) (ha : a < n) (hn9 : n ≤ 1000) (hi : vp_in i N)
    (kk : PW M Q (pc + 1) L (.int (I a i.toNatClampNeg) :: st) n I J P kc ks) : PW M Q pc L (.int i :: .ref a :: st) n I J P kc ks := by
  intro V A p l e s m args below meth c H locs ls C hP hS hn hz hl
  obtain ⟨hx, hb, hr, hml, hown, hts, hlo, htb, hK, hA, hF, hst, hE⟩ := id C
  rw [List.map_cons, List.map_cons, rv_lt V (by omega)]
  exact va_iald hx hb hK hP a 0 (by rw [wl_at V I J P ha, pE_int hk]) rfl hi hd (kk V A p l e s m args below meth c H locs ls C hP hS hn hz hl)
theorem pw_zald {a N : Nat} {i : Int32} (hd : decode (pT.cc M) pc = .ok (.baload, 1)) (hk : pS a = (9, N)) (ha : a < n) (hn9 : n ≤ 1000) (hi : vp_in i N)
    (kk : PW M Q (pc + 1) L (.int (I a i.toNatClampNeg) :: st) n I J P kc ks) : PW M Q pc L (.int i :: .ref a :: st) n I J P kc ks := by
  intro V A p l e s m args below meth c H locs ls C hP hS hn hz hl
  obtain ⟨hx, hb, hr, hml, hown, hts, hlo, htb, hK, hA, hF, hst, hE⟩ := id C
  rw [List.map_cons, List.map_cons, rv_lt V (by omega)]
  exact va_zald hx hb hK hP a 2 (by rw [wl_at V I J P ha, pE_bool hk]) rfl hi hd (kk V A p l e s m args below meth c H locs ls C hP hS hn hz hl)
theorem pw_lald {a N : Nat} {i : Int32} (hd : decode (pT.cc M) pc = .ok (.laload, 1)) (hk : pS a = (8, N)) (ha : a < n) (hn9 : n ≤ 1000) (hi : vp_in i N)
    (kk : PW M Q (pc + 1) L (.long (J a i.toNatClampNeg) :: st) n I J P kc ks) : PW M Q pc L (.int i :: .ref a :: st) n I J P kc ks := by
  intro V A p l e s m args below meth c H locs ls C hP hS hn hz hl
  obtain ⟨hx, hb, hr, hml, hown, hts, hlo, htb, hK, hA, hF, hst, hE⟩ := id C
  rw [List.map_cons, List.map_cons, rv_lt V (by omega)]
  exact va_lald hx hb hK hP a 1 (by rw [wl_at V I J P ha, pE_long hk]) rfl hi hd (kk V A p l e s m args below meth c H locs ls C hP hS hn hz hl)
theorem pw_aaldC {a N x : Nat} {i : Int32} (hd : decode (pT.cc M) pc = .ok (.aaload, 1)) (hk : pS a = (10, N)) (ha : a < n) (hn9 : n ≤ 1000) (hi : vp_in i N) (hx9 : P a i.toNatClampNeg = some x)
    (kk : PW M Q (pc + 1) L (.ref x :: st) n I J P kc ks) : PW M Q pc L (.int i :: .ref a :: st) n I J P kc ks := by
  intro V A p l e s m args below meth c H locs ls C hP hS hn hz hl
  obtain ⟨hx, hb, hr, hml, hown, hts, hlo, htb, hK, hA, hF, hst, hE⟩ := id C
  rw [List.map_cons, List.map_cons, rv_lt V (by omega)]
  refine va_aldq hx hb hK hP a 3 (by rw [wl_at V I J P ha, pE_refC hk]) rfl hi hd ?_
  have h := kk V A p l e s m args below meth c H locs ls C hP hS hn hz hl
  simp only [hx9]
  exact h
theorem pw_aaldI {a N x : Nat} {i : Int32} (hd : decode (pT.cc M) pc = .ok (.aaload, 1)) (hk : pS a = (11, N)) (ha : a < n) (hn9 : n ≤ 1000) (hi : vp_in i N) (hx9 : P a i.toNatClampNeg = some x)
    (kk : PW M Q (pc + 1) L (.ref x :: st) n I J P kc ks) : PW M Q pc L (.int i :: .ref a :: st) n I J P kc ks := by
  intro V A p l e s m args below meth c H locs ls C hP hS hn hz hl
  obtain ⟨hx, hb, hr, hml, hown, hts, hlo, htb, hK, hA, hF, hst, hE⟩ := id C
  rw [List.map_cons, List.map_cons, rv_lt V (by omega)]
  refine va_aldq hx hb hK hP a 4 (by rw [wl_at V I J P ha, pE_refI hk]) rfl hi hd ?_
  have h := kk V A p l e s m args below meth c H locs ls C hP hS hn hz hl
  simp only [hx9]
  exact h
theorem pw_iast {a N : Nat} {i x : Int32} (hd : decode (pT.cc M) pc = .ok (.iastore, 1)) (hk : pS a = (7, N)) (ha : a < n) (hn9 : n ≤ 1000) (hi : vp_in i N)
    (kk : PW M Q (pc + 1) L st n (upI I a i.toNatClampNeg x) J P kc ks) : PW M Q pc L (.int x :: .int i :: .ref a :: st) n I J P kc ks := by
  intro V A p l e s m args below meth c H locs ls C hP hS hn hz hl
  obtain ⟨hx, hb, hr, hml, hown, hts, hlo, htb, hK, hA, hF, hst, hE⟩ := id C
  rw [List.map_cons, List.map_cons, List.map_cons, rv_lt V (by omega)]
  refine va_iast hx hb hK hP (wl_D hn) (pS_rf hS) a 0 (by rw [wl_at V I J P ha, pE_int hk]) rfl hi hd (fun H1 locs1 hP1 hD1 hS1 => ?_)
  rw [wl_set (I' := upI I a i.toNatClampNeg x) (J' := J) (P' := P) ha (by rw [pE_int hk, upI_own]) (fun a' h => pE_congr (upI_row h) rfl rfl)] at hP1
  exact kk V A p l e s m args below meth c H1 locs1 ls C hP1 (pS_trans hS hS1) hn (Nat.le_trans hz hS1.1) hl
theorem pw_zast {a N : Nat} {i x : Int32} (hd : decode (pT.cc M) pc = .ok (.bastore, 1)) (hk : pS a = (9, N)) (ha : a < n) (hn9 : n ≤ 1000) (hi : vp_in i N) (hx9 : vp_nar .boolean x = x)
    (kk : PW M Q (pc + 1) L st n (upI I a i.toNatClampNeg x) J P kc ks) : PW M Q pc L (.int x :: .int i :: .ref a :: st) n I J P kc ks := by
  intro V A p l e s m args below meth c H locs ls C hP hS hn hz hl
  obtain ⟨hx, hb, hr, hml, hown, hts, hlo, htb, hK, hA, hF, hst, hE⟩ := id C
  rw [List.map_cons, List.map_cons, List.map_cons, rv_lt V (by omega)]
  refine va_zast hx hb hK hP (wl_D hn) (pS_rf hS) a 2 (by rw [wl_at V I J P ha, pE_bool hk]) rfl hi hd (fun H1 locs1 hP1 hD1 hS1 => ?_)
  rw [hx9, wl_set (I' := upI I a i.toNatClampNeg x) (J' := J) (P' := P) ha (by rw [pE_bool hk, upI_own]) (fun a' h => pE_congr (upI_row h) rfl rfl)] at hP1
  exact kk V A p l e s m args below meth c H1 locs1 ls C hP1 (pS_trans hS hS1) hn (Nat.le_trans hz hS1.1) hl
theorem pw_last {a N : Nat} {i : Int32} {x : Int64} (hd : decode (pT.cc M) pc = .ok (.lastore, 1)) (hk : pS a = (8, N)) (ha : a < n) (hn9 : n ≤ 1000) (hi : vp_in i N)
    (kk : PW M Q (pc + 1) L st n I (upJ J a i.toNatClampNeg x) P kc ks) : PW M Q pc L (.long x :: .int i :: .ref a :: st) n I J P kc ks := by
  intro V A p l e s m args below meth c H locs ls C hP hS hn hz hl
  obtain ⟨hx, hb, hr, hml, hown, hts, hlo, htb, hK, hA, hF, hst, hE⟩ := id C
  rw [List.map_cons, List.map_cons, List.map_cons, rv_lt V (by omega)]
  refine va_last hx hb hK hP (wl_D hn) (pS_rf hS) a 1 (by rw [wl_at V I J P ha, pE_long hk]) rfl hi hd (fun H1 locs1 hP1 hD1 hS1 => ?_)
  rw [wl_set (I' := I) (J' := upJ J a i.toNatClampNeg x) (P' := P) ha (by rw [pE_long hk, upJ_own]) (fun a' h => pE_congr rfl (upJ_row h) rfl)] at hP1
  exact kk V A p l e s m args below meth c H1 locs1 ls C hP1 (pS_trans hS hS1) hn (Nat.le_trans hz hS1.1) hl
theorem pw_alen {a N : Nat} {v : Int32} (hd : decode (pT.cc M) pc = .ok (.arraylength, 1)) (hk : pS a = (7, N)) (ha : a < n) (hn9 : n ≤ 1000) (hv : Int32.ofNat N = v)
    (kk : PW M Q (pc + 1) L (.int v :: st) n I J P kc ks) : PW M Q pc L (.ref a :: st) n I J P kc ks := by
  intro V A p l e s m args below meth c H locs ls C hP hS hn hz hl
  obtain ⟨hx, hb, hr, hml, hown, hts, hlo, htb, hK, hA, hF, hst, hE⟩ := id C
  rw [List.map_cons, rv_lt V (by omega)]
  exact va_alen (x := (N, .inl (I a))) (ty := .int) hx hb hK hP a 0 (by rw [wl_at V I J P ha, pE_int hk]) rfl hv hd (kk V A p l e s m args below meth c H locs ls C hP hS hn hz hl)
/-- the class's static arrays: 1000 + i -/
theorem pw_gets {idx i : Nat} {nm : String} {xs : List Int32} (hd : decode (pT.cc M) pc = .ok (.getstatic idx, 3)) (hi : pStat[i]? = some (nm, xs)) (hw : pIn (.fieldLink (pT.own M) idx "LockMuseum" nm "[I") = true)
    (kk : PW M Q (pc + 3) L (.ref (1000 + i) :: st) n I J P kc ks) : PW M Q pc L st n I J P kc ks := by
  intro V A p l e s m args below meth c H locs ls C hP hS hn hz hl
  obtain ⟨hx, hb, hr, hml, hown, hts, hlo, htb, hK, hA, hF, hst, hE⟩ := id C
  have e1 : rv V (.ref (1000 + i)) = .ref (pEnv.sa V i) := by show Value.ref (ra V (1000 + i)) = _; unfold ra; rw [if_neg (by omega), Nat.add_sub_cancel_left]
  have h := kk V A p l e s m args below meth c H locs ls C hP hS hn hz hl
  rw [List.map_cons, e1] at h
  exact va_gets hx hb (hF.2.1 i _ hi).1 hS hown (hts _ (pIn_mem hw)) (fun _ h => h) hd h
theorem pw_sald {i : Nat} {j : Int32} {nm : String} {xs : List Int32} (hd : decode (pT.cc M) pc = .ok (.iaload, 1)) (hi : pStat[i]? = some (nm, xs)) (hj : vp_in j xs.length)
    (kk : PW M Q (pc + 1) L (.int (xs.getD j.toNatClampNeg 0) :: st) n I J P kc ks) : PW M Q pc L (.int j :: .ref (1000 + i) :: st) n I J P kc ks := by
  intro V A p l e s m args below meth c H locs ls C hP hS hn hz hl
  obtain ⟨hx, hb, hr, hml, hown, hts, hlo, htb, hK, hA, hF, hst, hE⟩ := id C
  have e1 : rv V (.ref (1000 + i)) = .ref (pEnv.sa V i) := by show Value.ref (ra V (1000 + i)) = _; unfold ra; rw [if_neg (by omega), Nat.add_sub_cancel_left]
  rw [List.map_cons, List.map_cons, e1]
  exact va_ti hx hb (hF.2.1 i _ hi).2 hS hj rfl hd (kk V A p l e s m args below meth c H locs ls C hP hS hn hz hl)
theorem pw_slen {i : Nat} {v : Int32} {nm : String} {xs : List Int32} (hd : decode (pT.cc M) pc = .ok (.arraylength, 1)) (hi : pStat[i]? = some (nm, xs)) (hv : Int32.ofNat xs.length = v)
    (kk : PW M Q (pc + 1) L (.int v :: st) n I J P kc ks) : PW M Q pc L (.ref (1000 + i) :: st) n I J P kc ks := by
  intro V A p l e s m args below meth c H locs ls C hP hS hn hz hl
  obtain ⟨hx, hb, hr, hml, hown, hts, hlo, htb, hK, hA, hF, hst, hE⟩ := id C
  have e1 : rv V (.ref (1000 + i)) = .ref (pEnv.sa V i) := by show Value.ref (ra V (1000 + i)) = _; unfold ra; rw [if_neg (by omega), Nat.add_sub_cancel_left]
  rw [List.map_cons, e1]
  obtain ⟨cell, q1, q2, q3, q4, q5, q6, q7⟩ := (hF.2.1 i _ hi).2
  exact W.alen (n := v) hx hb (a := pEnv.sa V i) (cell := cell) (ty := .int) (by rw [hS.2.1 _ (Array.getElem?_eq_some_iff.mp q1).1 q7]; exact q1) q2 (by rw [q5]; exact hv) rfl rfl hd (kk V A p l e s m args below meth c H locs ls C hP hS hn hz hl)
theorem pw_ldc {idx : Nat} {v : Int32} (hd : decode (pT.cc M) pc = .ok (.ldc idx, 2)) (hw : pIn (.constant (pT.own M) idx v) = true)
    (kk : PW M Q (pc + 2) L (.int v :: st) n I J P kc ks) : PW M Q pc L st n I J P kc ks := by
  intro V A p l e s m args below meth c H locs ls C hP hS hn hz hl
  obtain ⟨hx, hb, hr, hml, hown, hts, hlo, htb, hK, hA, hF, hst, hE⟩ := id C
  exact W.ldc hx hb hown (hts _ (pIn_mem hw)) rfl hd (kk V A p l e s m args below meth c H locs ls C hP hS hn hz hl)
theorem pw_ldc2 {idx : Nat} {v : Int64} (hd : decode (pT.cc M) pc = .ok (.ldc2_w idx, 3)) (hw : pIn (.constantLong (pT.own M) idx v) = true)
    (kk : PW M Q (pc + 3) L (.long v :: st) n I J P kc ks) : PW M Q pc L st n I J P kc ks := by
  intro V A p l e s m args below meth c H locs ls C hP hS hn hz hl
  obtain ⟨hx, hb, hr, hml, hown, hts, hlo, htb, hK, hA, hF, hst, hE⟩ := id C
  exact W.ldc2 hx hb hown (hts _ (pIn_mem hw)) rfl hd (kk V A p l e s m args below meth c H locs ls C hP hS hn hz hl)
/-- the world at an end -/
theorem pw_end {V : pEnv} {A : Nat → Prop} {s t : State} {H : Heap} {locs : List Loc} {args : Array Value} {r : Option Value} (hP : va_P (pEnv.D V) vwCl (wl V n I J P) H) (hK : va_K (pEnv.D V) vwCl (pTys V) s) (hS : va_S A s.heap H locs) (hn : ∀ a, a < n → A (pEnv.b V + a)) (hz : pEnv.b V + n ≤ H.size) (hq : Q (.inl r) n I J P) (ht : t.heap = H) (hW : s.WarmedH t.vm) : pQc V Q A args s (.returned (r.map (rv V))) t :=
  ⟨⟨r, n, I, J, P, rfl, hq, hn, by rw [ht]; exact hP, va_K.moved hW.alike hK, by rw [ht]; exact hz⟩, hS.F ht⟩
theorem pw_vret (hd : decode (pT.cc M) pc = .ok (.return_, 1)) (hr9 : pT.ret M = none) (hc : kc ≤ (pT.R M).cells) (hs : ks ≤ (pT.R M).slots) (hq : Q (.inl none) n I J P) : PW M Q pc L [] n I J P kc ks := by
  intro V A p l e s m args below meth c H locs ls C hP hS hn hz hl
  obtain ⟨hx, hb, hr, hml, hown, hts, hlo, htb, hK, hA, hF, hst, hE⟩ := id C
  exact W.widen hc hs (vx_ret (W.vret hx hb (hr.trans hr9) (fun t ht hW => pw_end (r := none) hP hK hS hn hz hq ht hW) hS.2.2 hd hlo))
theorem pw_iret {x : Int32} {ty : FieldType} (hd : decode (pT.cc M) pc = .ok (.ireturn, 1)) (hr9 : pT.ret M = some ty) (hx9 : narrow ty (.int x) = .int x) (hc : kc ≤ (pT.R M).cells) (hs : ks ≤ (pT.R M).slots) (hq : Q (.inl (some (.int x))) n I J P) : PW M Q pc L [.int x] n I J P kc ks := by
  intro V A p l e s m args below meth c H locs ls C hP hS hn hz hl
  obtain ⟨hx, hb, hr, hml, hown, hts, hlo, htb, hK, hA, hF, hst, hE⟩ := id C
  exact W.widen hc hs (vx_ret (W.zret hx hb (hr.trans hr9) hx9 (fun t ht hW => pw_end (r := some (.int x)) hP hK hS hn hz hq ht hW) hS.2.2 hd hlo))
theorem pw_lret {x : Int64} (hd : decode (pT.cc M) pc = .ok (.lreturn, 1)) (hr9 : pT.ret M = some .long) (hc : kc ≤ (pT.R M).cells) (hs : ks ≤ (pT.R M).slots) (hq : Q (.inl (some (.long x))) n I J P) : PW M Q pc L [.long x] n I J P kc ks := by
  intro V A p l e s m args below meth c H locs ls C hP hS hn hz hl
  obtain ⟨hx, hb, hr, hml, hown, hts, hlo, htb, hK, hA, hF, hst, hE⟩ := id C
  exact W.widen hc hs (vx_ret (W.lret hx hb (hr.trans hr9) (fun t ht hW => pw_end (r := some (.long x)) hP hK hS hn hz hq ht hW) hS.2.2 hd hlo))
theorem pw_aret {x : Nat} {ty : FieldType} (hd : decode (pT.cc M) pc = .ok (.areturn, 1)) (hr9 : pT.ret M = some ty) (ht9 : (∃ n, ty = .object n) ∨ ∃ t, ty = .array t) (hc : kc ≤ (pT.R M).cells) (hs : ks ≤ (pT.R M).slots) (hq : Q (.inl (some (.ref x))) n I J P) : PW M Q pc L [.ref x] n I J P kc ks := by
  intro V A p l e s m args below meth c H locs ls C hP hS hn hz hl
  obtain ⟨hx, hb, hr, hml, hown, hts, hlo, htb, hK, hA, hF, hst, hE⟩ := id C
  exact W.widen hc hs (vx_ret (W.aret (v := rv V (.ref x)) hx hb (hr.trans hr9) ht9 (Or.inr ⟨_, rfl⟩) (fun t ht hW => pw_end (r := some (.ref x)) hP hK hS hn hz hq ht hW) hS.2.2 hd hlo))
end Rows
theorem lv_args_map (V : pEnv) : ∀ (as : List Value) (i : Nat), lv_args i (as.map (rv V)) = mL V (lv_args i as) := by
  intro as
  induction as with
  | nil => intro i; rfl
  | cons v t ih =>
    intro i
    simp only [List.map_cons, lv_args, rv_cat, ih, mL]
/-- A CONTRACT OUT OF A WALK FROM THE ENTRY -/
theorem pMet_of {y : MethodName} {cc : ByteArray} {nL : Nat} {ret : Option FieldType} {rm : Room} {as : List Value} {n : Nat} {I : pI} {J : pJ} {P : pP} {Q : pQ} (hy : plainName y.cls = true) (hlen : (lg_sl as).length ≤ nL)
    (k : PW (y.cls, cc, nL, ret, rm, [], none) Q 0 (lv_args 0 as) [] n I J P 0 0) : pMet y (pws y cc nL ret) rm as n I J P Q := by
  intro l V sz hst
  refine vx_ofW (cc := cc) (maxL := nL) (ret := ret) hy rfl ?_
  intro p e s m args below meth c s₁ B hml htab hv
  obtain ⟨rfl, hsz, ⟨hP, hK, hz⟩, hF⟩ := hv
  have hts := atoms_spec (ws := pws y cc nL ret) B.pre
  have hown : s.vm.findClass y.cls = some m.cls := findClass_of_methodNamed B.named
  subst hsz
  have hlen' : (lg_sl (as.map (rv V))).length ≤ nL := by
    have : (lg_sl (as.map (rv V))).length = (lg_sl as).length := by
      unfold lg_sl
      clear hlen k hP hz hF B hts
      induction as with
      | nil => rfl
      | cons v t ih =>
        simp only [List.map_cons, List.flatMap_cons, List.length_append, ih, rv_cat]
        congr 1
        split <;> rfl
    omega
  have hl := lv_entry (as.map (rv V)) (n := nL) hlen'
  rw [lg_entry_eq]
  rw [lv_args_map] at hl
  have htb : c.exceptionTable.toList = tableOf [] := by
    cases h9 : c.exceptionTable.toList with
    | nil => rfl
    | cons x t => exact absurd (by rw [h9]; exact List.mem_cons_self) (htab x)
  exact k V (pA (pEnv.b V) n s.heap.size) p l e s m _ below meth c s.heap [] _ ⟨B.exec, B.bytes, B.returns, hml, hown, fun w h => hts w (List.mem_cons_of_mem _ h), B.notSynchronized, htb, hK, fun q h => Or.inr h, hF, hst, fun _ _ _ h => nomatch h⟩ hP va_S.rf (fun a h => Or.inl ⟨by omega, by omega⟩) hz hl
