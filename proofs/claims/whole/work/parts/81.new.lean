section Rows
variable {M : pT} {Q Q' : pQ} {pc : Nat} {L : List (Nat × Value)} {st : List Value} {n : Nat} {I : pI} {J : pJ} {P : pP} {kc ks : Nat}
theorem pw_new {n0 ci idx : Nat} {i : Bool} {X : pEnv → (Nat → Prop) → State → Prop} (hd : decode (pT.cc M) pc = .ok (.new idx, 3)) (hz9 : pT.z M = some (n0, i, X)) (hk9 : n0 + kc = n) (hw : pWNw (pT.own M) idx ci = true) (hci : (pS n).1 = ci) (hn9 : n < 1000) (hc : kc + 1 ≤ (pT.R M).cells) (hs : ks + pN ci ≤ (pT.R M).slots)
    (kk : PW M Q (pc + 3) L (.ref n :: st) (n + 1) (zI I n) J (zP P n) (kc + 1) (ks + pN ci)) : PW M Q pc L st n I J P kc ks := by
  intro V A p l e s m args below meth c H locs ls C hP hS hn hz hl T hT X9
  have hsz := pw_size hz9 hk9 C hz hT X9
  obtain ⟨hx, hb, hr, hml, hown, hts, hlo, htb, hK, hA, hF, hst, hE⟩ := id C
  simp only [pWNw, Bool.and_eq_true, decide_eq_true_eq] at hw
  obtain ⟨w1, w2, w3, hlt⟩ := hw
  have hKn := hK.1 ci _ (pC_at ci hlt)
  suffices hW : W p l e (pT.R M) s m args below meth c H locs kc ks (vx_MQ below (pQc V Q A) (pXC V Q A) args s (pT.R M).cells (pT.R M).slots A) (F0 m pc ls (st.map (rv V))) from hW T hT X9
  refine W.newcK (n := pN ci) hx hb hown (hts _ (pIn_mem w1)) (hts _ (pIn_mem w2)) (hts _ (pIn_mem w3)) rfl hd hc hs hKn.2.1 hsz (fun H1 kC hkC e1 z1 o1 => ?_)
  have hk : ∀ (k : Nat) (x : Nat × va_E), (wl V n I J P)[k]? = some x → H1[x.1]? = H[x.1]? := fun k x hx => o1 x.1 (by rw [← hsz]; exact (hP k x hx).lt)
  have hP1 : va_P (pEnv.D V) vwCl (wl V (n + 1) (zI I n) J (zP P n)) H1 := by
    rw [wl_succ (I := I) (J := J) (P := P) (fun a ha => pE_congr (zI_row (by omega)) rfl (zP_row (by omega)))]
    refine (hP.kept hk).app (va_P1 ?_)
    rw [pE_obj hci hlt]
    refine ⟨_, pC_at ci hlt, (u_born (pTy ci) hts (pWs hlt) hKn hkC e1 (pTy_ok ci hlt)).to (fun j hj => ?_)⟩
    have hj' : j < pN ci := by rw [← pC_n ci hlt]; exact hj
    rw [vpV_map hj', pDef ci hlt j hj']
    unfold pF zI zP
    split
    · simp [va_rf]
    · simp
  have h := kk V A p l e s m args below meth c H1 locs ls C hP1 ⟨Nat.le_trans hS.1 (by omega), fun x h1 h2 => (o1 x (by have := hS.1; omega)).trans (hS.2.1 x h1 h2), hS.2.2⟩ (fun a ha => by
    rcases Nat.lt_or_ge a n with h | h
    · exact hn a h
    · have e : a = n := by omega
      subst e
      exact hA _ (by rw [← hsz]; exact hS.1)) (by omega) hl
  rw [List.map_cons, rv_lt V hn9] at h
  exact h
theorem pw_newI {n0 N : Nat} {i : Bool} {X : pEnv → (Nat → Prop) → State → Prop} {x : Int32} (hd : decode (pT.cc M) pc = .ok (.newarray .int, 2)) (hz9 : pT.z M = some (n0, i, X)) (hk9 : n0 + kc = n) (hw : pIn (.arrayClass .int) = true) (hci : pS n = (7, N)) (hx0 : ¬ x < 0) (hxN : x.toNatClampNeg = N) (hb9 : N ≤ 100000) (hn9 : n < 1000) (hc : kc + 1 ≤ (pT.R M).cells) (hs : ks + N ≤ (pT.R M).slots)
    (kk : PW M Q (pc + 2) L (.ref n :: st) (n + 1) (zI I n) (J) P (kc + 1) (ks + N)) : PW M Q pc L (.int x :: st) n I J P kc ks := by
  intro V A p l e s m args below meth c H locs ls C hP hS hn hz hl T hT X9
  have hsz := pw_size hz9 hk9 C hz hT X9
  obtain ⟨hx, hb, hr, hml, hown, hts, hlo, htb, hK, hA, hF, hst, hE⟩ := id C
  suffices hW : W p l e (pT.R M) s m args below meth c H locs kc ks (vx_MQ below (pQc V Q A) (pXC V Q A) args s (pT.R M).cells (pT.R M).slots A) (F0 m pc ls (.int x :: st.map (rv V))) from hW T hT X9
  refine va_newaK (atype := .int) hx hb (hts _ (pIn_mem hw)) rfl hd rfl hx0 hxN (by show N * 4 ≤ 536870912; omega) hc hs hsz (fun H1 cA e1 z1 o1 hAr hNm => ?_)
  have ecA : cA = pEnv.cy V 7 := ra_cls (t := 0) (ty := .int) hK rfl hNm
  have hk : ∀ (k : Nat) (x : Nat × va_E), (wl V n I J P)[k]? = some x → H1[x.1]? = H[x.1]? := fun k x hx => o1 x.1 (by rw [← hsz]; exact (hP k x hx).lt)
  have hP1 : va_P (pEnv.D V) vwCl (wl V (n + 1) (zI I n) (J) P) H1 := by
    rw [wl_succ (I := I) (J := J) (P := P) (fun a ha => pE_congr (zI_row (by omega)) (rfl) rfl)]
    refine (hP.kept hk).app (va_P1 ?_)
    rw [pE_int hci]
    show H1[pEnv.b V + n]? = some (vp_cell _ _)
    rw [e1, ecA, vp_cell_i]
    congr 2
    funext j
    simp [zI]
    rfl
  have h := kk V A p l e s m args below meth c H1 locs ls C hP1 ⟨Nat.le_trans hS.1 (by omega), fun x h1 h2 => (o1 x (by have := hS.1; omega)).trans (hS.2.1 x h1 h2), hS.2.2⟩ (fun a ha => by
    rcases Nat.lt_or_ge a n with h | h
    · exact hn a h
    · have e : a = n := by omega
      subst e
      exact hA _ (by rw [← hsz]; exact hS.1)) (by omega) hl
  rw [List.map_cons, rv_lt V hn9] at h
  exact h
theorem pw_newL {n0 N : Nat} {i : Bool} {X : pEnv → (Nat → Prop) → State → Prop} {x : Int32} (hd : decode (pT.cc M) pc = .ok (.newarray .long, 2)) (hz9 : pT.z M = some (n0, i, X)) (hk9 : n0 + kc = n) (hw : pIn (.arrayClass .long) = true) (hci : pS n = (8, N)) (hx0 : ¬ x < 0) (hxN : x.toNatClampNeg = N) (hb9 : N ≤ 100000) (hn9 : n < 1000) (hc : kc + 1 ≤ (pT.R M).cells) (hs : ks + N ≤ (pT.R M).slots)
    (kk : PW M Q (pc + 2) L (.ref n :: st) (n + 1) (I) (zJ J n) P (kc + 1) (ks + N)) : PW M Q pc L (.int x :: st) n I J P kc ks := by
  intro V A p l e s m args below meth c H locs ls C hP hS hn hz hl T hT X9
  have hsz := pw_size hz9 hk9 C hz hT X9
  obtain ⟨hx, hb, hr, hml, hown, hts, hlo, htb, hK, hA, hF, hst, hE⟩ := id C
  suffices hW : W p l e (pT.R M) s m args below meth c H locs kc ks (vx_MQ below (pQc V Q A) (pXC V Q A) args s (pT.R M).cells (pT.R M).slots A) (F0 m pc ls (.int x :: st.map (rv V))) from hW T hT X9
  refine va_newaK (atype := .long) hx hb (hts _ (pIn_mem hw)) rfl hd rfl hx0 hxN (by show N * 8 ≤ 536870912; omega) hc hs hsz (fun H1 cA e1 z1 o1 hAr hNm => ?_)
  have ecA : cA = pEnv.cy V 8 := ra_cls (t := 1) (ty := .long) hK rfl hNm
  have hk : ∀ (k : Nat) (x : Nat × va_E), (wl V n I J P)[k]? = some x → H1[x.1]? = H[x.1]? := fun k x hx => o1 x.1 (by rw [← hsz]; exact (hP k x hx).lt)
  have hP1 : va_P (pEnv.D V) vwCl (wl V (n + 1) (I) (zJ J n) P) H1 := by
    rw [wl_succ (I := I) (J := J) (P := P) (fun a ha => pE_congr (rfl) (zJ_row (by omega)) rfl)]
    refine (hP.kept hk).app (va_P1 ?_)
    rw [pE_long hci]
    show H1[pEnv.b V + n]? = some (vp_cell _ _)
    rw [e1, ecA, vp_cell_l]
    congr 2
    funext j
    simp [zJ]
    rfl
  have h := kk V A p l e s m args below meth c H1 locs ls C hP1 ⟨Nat.le_trans hS.1 (by omega), fun x h1 h2 => (o1 x (by have := hS.1; omega)).trans (hS.2.1 x h1 h2), hS.2.2⟩ (fun a ha => by
    rcases Nat.lt_or_ge a n with h | h
    · exact hn a h
    · have e : a = n := by omega
      subst e
      exact hA _ (by rw [← hsz]; exact hS.1)) (by omega) hl
  rw [List.map_cons, rv_lt V hn9] at h
  exact h
theorem pw_newZ {n0 N : Nat} {i : Bool} {X : pEnv → (Nat → Prop) → State → Prop} {x : Int32} (hd : decode (pT.cc M) pc = .ok (.newarray .boolean, 2)) (hz9 : pT.z M = some (n0, i, X)) (hk9 : n0 + kc = n) (hw : pIn (.arrayClass .boolean) = true) (hci : pS n = (9, N)) (hx0 : ¬ x < 0) (hxN : x.toNatClampNeg = N) (hb9 : N ≤ 100000) (hn9 : n < 1000) (hc : kc + 1 ≤ (pT.R M).cells) (hs : ks + N ≤ (pT.R M).slots)
    (kk : PW M Q (pc + 2) L (.ref n :: st) (n + 1) (zI I n) (J) P (kc + 1) (ks + N)) : PW M Q pc L (.int x :: st) n I J P kc ks := by
  intro V A p l e s m args below meth c H locs ls C hP hS hn hz hl T hT X9
  have hsz := pw_size hz9 hk9 C hz hT X9
  obtain ⟨hx, hb, hr, hml, hown, hts, hlo, htb, hK, hA, hF, hst, hE⟩ := id C
  suffices hW : W p l e (pT.R M) s m args below meth c H locs kc ks (vx_MQ below (pQc V Q A) (pXC V Q A) args s (pT.R M).cells (pT.R M).slots A) (F0 m pc ls (.int x :: st.map (rv V))) from hW T hT X9
  refine va_newaK (atype := .boolean) hx hb (hts _ (pIn_mem hw)) rfl hd rfl hx0 hxN (by show N * 1 ≤ 536870912; omega) hc hs hsz (fun H1 cA e1 z1 o1 hAr hNm => ?_)
  have ecA : cA = pEnv.cy V 9 := ra_cls (t := 2) (ty := .boolean) hK rfl hNm
  have hk : ∀ (k : Nat) (x : Nat × va_E), (wl V n I J P)[k]? = some x → H1[x.1]? = H[x.1]? := fun k x hx => o1 x.1 (by rw [← hsz]; exact (hP k x hx).lt)
  have hP1 : va_P (pEnv.D V) vwCl (wl V (n + 1) (zI I n) (J) P) H1 := by
    rw [wl_succ (I := I) (J := J) (P := P) (fun a ha => pE_congr (zI_row (by omega)) (rfl) rfl)]
    refine (hP.kept hk).app (va_P1 ?_)
    rw [pE_bool hci]
    show H1[pEnv.b V + n]? = some (vp_cell _ _)
    rw [e1, ecA, vp_cell_i]
    congr 2
    funext j
    simp [zI]
    rfl
  have h := kk V A p l e s m args below meth c H1 locs ls C hP1 ⟨Nat.le_trans hS.1 (by omega), fun x h1 h2 => (o1 x (by have := hS.1; omega)).trans (hS.2.1 x h1 h2), hS.2.2⟩ (fun a ha => by
    rcases Nat.lt_or_ge a n with h | h
    · exact hn a h
    · have e : a = n := by omega
      subst e
      exact hA _ (by rw [← hsz]; exact hS.1)) (by omega) hl
  rw [List.map_cons, rv_lt V hn9] at h
  exact h
theorem pw_newC {n0 N idx : Nat} {i : Bool} {X : pEnv → (Nat → Prop) → State → Prop} {x : Int32} (hd : decode (pT.cc M) pc = .ok (.anewarray idx, 3)) (hz9 : pT.z M = some (n0, i, X)) (hk9 : n0 + kc = n) (hw1 : pIn (.classLink (pT.own M) idx "LockMuseum$Contender") = true) (hci : pS n = (10, N)) (hx0 : ¬ x < 0) (hxN : x.toNatClampNeg = N) (hb9 : N ≤ 100000) (hn9 : n < 1000) (hc : kc + 1 ≤ (pT.R M).cells) (hs : ks + N ≤ (pT.R M).slots)
    (kk : PW M Q (pc + 3) L (.ref n :: st) (n + 1) I J (zP P n) (kc + 1) (ks + N)) : PW M Q pc L (.int x :: st) n I J P kc ks := by
  intro V A p l e s m args below meth c H locs ls C hP hS hn hz hl T hT X9
  have hsz := pw_size hz9 hk9 C hz hT X9
  obtain ⟨hx, hb, hr, hml, hown, hts, hlo, htb, hK, hA, hF, hst, hE⟩ := id C
  subst hxN
  suffices hW : W p l e (pT.R M) s m args below meth c H locs kc ks (vx_MQ below (pQc V Q A) (pXC V Q A) args s (pT.R M).cells (pT.R M).slots A) (F0 m pc ls (.int x :: st.map (rv V))) from hW T hT X9
  refine W.anew hx hb hown (hts _ (pIn_mem hw1)) ((hE n0 i X hz9).2.2.1 _ _ (by simp)) rfl hd rfl hx0 (by omega) hc hs (fun cA kA comp h1 h2 h3 h4 => ?_)
  have ecA : cA = pEnv.cy V 10 := ra_cls (t := 3) (ty := .object "LockMuseum$Contender") hK rfl h1
  rw [arrV_new]
  have e1 : (H.push (arrV cA x.toNatClampNeg (fun _ => .null)))[pEnv.b V + n]? = some (arrV cA x.toNatClampNeg (fun _ => .null)) := by rw [← hsz]; simp
  have z1 : (H.push (arrV cA x.toNatClampNeg (fun _ => .null))).size = pEnv.b V + n + 1 := by rw [Array.size_push, hsz]
  have o1 : ∀ q, q < H.size → (H.push (arrV cA x.toNatClampNeg (fun _ => .null)))[q]? = H[q]? := fun q hq => by rw [Array.getElem?_push, if_neg (Nat.ne_of_lt hq)]
  revert e1 z1 o1
  generalize H.push (arrV cA x.toNatClampNeg (fun _ => .null)) = H1
  intro e1 z1 o1
  have hk : ∀ (k : Nat) (x : Nat × va_E), (wl V n I J P)[k]? = some x → H1[x.1]? = H[x.1]? := fun k x hx => o1 x.1 (hP k x hx).lt
  have hP1 : va_P (pEnv.D V) vwCl (wl V (n + 1) I J (zP P n)) H1 := by
    rw [wl_succ (I := I) (J := J) (P := P) (fun a ha => pE_congr rfl rfl (zP_row (by omega)))]
    refine (hP.kept hk).app (va_P1 ?_)
    rw [pE_refC hci]
    show H1[pEnv.b V + n]? = some (vp_cell _ _)
    rw [e1, ecA, vp_cell_q]
    congr 2
    funext j
    simp [zP, va_rf]
  have h := kk V A p l e s m args below meth c H1 locs ls C hP1 ⟨Nat.le_trans hS.1 (by omega), fun x h1 h2 => (o1 x (by have := hS.1; omega)).trans (hS.2.1 x h1 h2), hS.2.2⟩ (fun a ha => by
    rcases Nat.lt_or_ge a n with h | h
    · exact hn a h
    · have e : a = n := by omega
      subst e
      exact hA _ (by rw [← hsz]; exact hS.1)) (by omega) hl
  rw [List.map_cons, rv_lt V hn9] at h
  rw [hsz]
  exact h
theorem pw_newN {n0 N idx : Nat} {i : Bool} {X : pEnv → (Nat → Prop) → State → Prop} {x : Int32} (hd : decode (pT.cc M) pc = .ok (.anewarray idx, 3)) (hz9 : pT.z M = some (n0, i, X)) (hk9 : n0 + kc = n) (hw1 : pIn (.classLink (pT.own M) idx "LockMuseum$Instruction") = true) (hci : pS n = (11, N)) (hx0 : ¬ x < 0) (hxN : x.toNatClampNeg = N) (hb9 : N ≤ 100000) (hn9 : n < 1000) (hc : kc + 1 ≤ (pT.R M).cells) (hs : ks + N ≤ (pT.R M).slots)
    (kk : PW M Q (pc + 3) L (.ref n :: st) (n + 1) I J (zP P n) (kc + 1) (ks + N)) : PW M Q pc L (.int x :: st) n I J P kc ks := by
  intro V A p l e s m args below meth c H locs ls C hP hS hn hz hl T hT X9
  have hsz := pw_size hz9 hk9 C hz hT X9
  obtain ⟨hx, hb, hr, hml, hown, hts, hlo, htb, hK, hA, hF, hst, hE⟩ := id C
  subst hxN
  suffices hW : W p l e (pT.R M) s m args below meth c H locs kc ks (vx_MQ below (pQc V Q A) (pXC V Q A) args s (pT.R M).cells (pT.R M).slots A) (F0 m pc ls (.int x :: st.map (rv V))) from hW T hT X9
  refine W.anew hx hb hown (hts _ (pIn_mem hw1)) ((hE n0 i X hz9).2.2.1 _ _ (by simp)) rfl hd rfl hx0 (by omega) hc hs (fun cA kA comp h1 h2 h3 h4 => ?_)
  have ecA : cA = pEnv.cy V 11 := ra_cls (t := 4) (ty := .object "LockMuseum$Instruction") hK rfl h1
  rw [arrV_new]
  have e1 : (H.push (arrV cA x.toNatClampNeg (fun _ => .null)))[pEnv.b V + n]? = some (arrV cA x.toNatClampNeg (fun _ => .null)) := by rw [← hsz]; simp
  have z1 : (H.push (arrV cA x.toNatClampNeg (fun _ => .null))).size = pEnv.b V + n + 1 := by rw [Array.size_push, hsz]
  have o1 : ∀ q, q < H.size → (H.push (arrV cA x.toNatClampNeg (fun _ => .null)))[q]? = H[q]? := fun q hq => by rw [Array.getElem?_push, if_neg (Nat.ne_of_lt hq)]
  revert e1 z1 o1
  generalize H.push (arrV cA x.toNatClampNeg (fun _ => .null)) = H1
  intro e1 z1 o1
  have hk : ∀ (k : Nat) (x : Nat × va_E), (wl V n I J P)[k]? = some x → H1[x.1]? = H[x.1]? := fun k x hx => o1 x.1 (hP k x hx).lt
  have hP1 : va_P (pEnv.D V) vwCl (wl V (n + 1) I J (zP P n)) H1 := by
    rw [wl_succ (I := I) (J := J) (P := P) (fun a ha => pE_congr rfl rfl (zP_row (by omega)))]
    refine (hP.kept hk).app (va_P1 ?_)
    rw [pE_refI hci]
    show H1[pEnv.b V + n]? = some (vp_cell _ _)
    rw [e1, ecA, vp_cell_q]
    congr 2
    funext j
    simp [zP, va_rf]
  have h := kk V A p l e s m args below meth c H1 locs ls C hP1 ⟨Nat.le_trans hS.1 (by omega), fun x h1 h2 => (o1 x (by have := hS.1; omega)).trans (hS.2.1 x h1 h2), hS.2.2⟩ (fun a ha => by
    rcases Nat.lt_or_ge a n with h | h
    · exact hn a h
    · have e : a = n := by omega
      subst e
      exact hA _ (by rw [← hsz]; exact hS.1)) (by omega) hl
  rw [List.map_cons, rv_lt V hn9] at h
  rw [hsz]
  exact h
end Rows
