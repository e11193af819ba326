theorem g_inst : ((List.range 7).all fun ci => inT (.instantiable (pC ci).1 (pN ci))) = true := by decide +kernel
theorem inT_mem {w : Cond} (h : inT w = true) : w ∈ lw_tbl := of_decide_eq_true h
theorem inN_mem {w : Cond} (h : inN w = true) : w ∈ nar := of_decide_eq_true h
theorem pww_tbl {w : Cond} (h : w ∈ pww) : w ∈ lw_tbl := (List.mem_filter.mp h).1
section Given
variable {s : State} {b : Nat}
theorem g_sa (hts : ∀ w ∈ lw_tbl, w.before #[Value.ref b] s = true) (hgv : ∀ w ∈ nar, w.before #[Value.ref b] s = true) : ∃ sa : Nat → Nat, sa 6 = b ∧ ∀ (i : Nat) (q : String × List Int32), pStat[i]? = some q → va_Z "LockMuseum" q.1 "[I" (.ref (sa i)) (fun q => s.heap.size ≤ q) s s.heap ∧ va_T .int (sa i) q.2.length (fun j => .int (q.2.getD j 0)) (fun q => s.heap.size ≤ q) s s.heap := by
  have hA : ∀ a : Nat, a < s.heap.size → ¬ (fun q : Nat => s.heap.size ≤ q) a := fun a h => Nat.not_le.mpr h
  have h0 : ∀ i : Nat, ∃ t : Nat, ∀ q, pStat[i]? = some q → va_Z "LockMuseum" q.1 "[I" (.ref t) (fun q => s.heap.size ≤ q) s s.heap ∧ va_T .int t q.2.length (fun j => .int (q.2.getD j 0)) (fun q => s.heap.size ≤ q) s s.heap := by
    intro i
    cases hq : pStat[i]? with
    | none => exact ⟨0, fun q h => nomatch h⟩
    | some q =>
      have hok := List.all_eq_true.mp g_arr q (List.mem_of_getElem? hq)
      simp only [okA, Bool.and_eq_true, decide_eq_true_eq] at hok
      obtain ⟨o1, o2, o3, o4⟩ := hok
      obtain ⟨t, ht, hT⟩ := va_Tof (f := fun j => .int (q.2.getD j 0)) (A := fun q => s.heap.size ≤ q) o4 (hgv _ (inN_mem o1)) (va_eqt (hgv _ (inN_mem o2))) (fun j hj => va_eqt (hgv _ (g_el i q hq j hj))) hA
      refine ⟨t, fun q' h => ?_⟩
      cases h
      exact ⟨va_Zref (hts _ (inT_mem o3)) (hts _ (inT_mem g_ini)) ht hA, hT⟩
  obtain ⟨sa, hsa⟩ := Classical.axiomOfChoice h0
  refine ⟨fun i => if i = 6 then b else sa i, if_pos rfl, fun i q hq => ?_⟩
  have hi : i ≠ 6 := fun e => by subst e; simp [pStat] at hq
  have e : (fun i => if i = 6 then b else sa i) i = sa i := if_neg hi
  rw [e]
  exact hsa i q hq
theorem g_fx {V : pEnv} (hts : ∀ w ∈ lw_tbl, w.before #[Value.ref b] s = true) (hgv : ∀ w ∈ nar, w.before #[Value.ref b] s = true) (hsa : ∀ (i : Nat) (q : String × List Int32), pStat[i]? = some q → va_Z "LockMuseum" q.1 "[I" (.ref (pEnv.sa V i)) (fun q => s.heap.size ≤ q) s s.heap ∧ va_T .int (pEnv.sa V i) q.2.length (fun j => .int (q.2.getD j 0)) (fun q => s.heap.size ≤ q) s s.heap) : FX V (fun q => s.heap.size ≤ q) s s.heap := by
  have hA : ∀ a : Nat, a < s.heap.size → ¬ (fun q : Nat => s.heap.size ≤ q) a := fun a h => Nat.not_le.mpr h
  have ht := g_thr
  simp only [Bool.and_eq_true] at ht
  obtain ⟨t1, t2, t3, t4, t5⟩ := ht
  refine ⟨fun q hq => va_Nw.of rfl (hts _ (inT_mem (List.all_eq_true.mp g_nest q hq))), hsa, vx_Zqof (hts _ (inT_mem t1)) (hts _ (inT_mem t3)) (hgv _ (inN_mem t4)) hA, vx_Zqof (hts _ (inT_mem t2)) (hts _ (inT_mem t3)) (hgv _ (inN_mem t5)) hA, fun q hq => ?_, fun w hw => ?_, fun q hq => va_Nc.of (hgv _ (inN_mem (List.all_eq_true.mp g_no q hq)))⟩
  · have h := List.all_eq_true.mp g_str q hq
    simp only [Bool.and_eq_true] at h
    obtain ⟨a, c, cA, kA, q1, -⟩ := Cond.exactly_spec (args := #[Value.ref b]) (first := s) (o := none) (s := s) (idx := []) (hgv _ (inN_mem h.2))
    exact ⟨a, vk_R.of (hts _ (inT_mem h.1)) q1⟩
  · have h := List.all_eq_true.mp g_odd w hw
    have hcd := List.all_eq_true.mp pOdd_cd w hw
    have hb : w.before #[Value.ref b] s = true := by
      rw [Bool.or_eq_true] at h
      rcases h with h | h
      · exact hts _ (inT_mem h)
      · exact hgv _ (inN_mem h)
    cases w <;> first | (simp [pCD] at hcd; done) | exact va_Nw.of rfl hb
theorem g_K (hts : ∀ w ∈ lw_tbl, w.before #[Value.ref b] s = true) : ∃ (D : va_G) (cy : Nat → ClassId), ∀ (b9 : Nat) (sa : Nat → Nat), va_K D vwCl (pTys (b9, sa, cy, D)) s := by
  have h0 : ∀ ci : Nat, ∃ q : ClassId × (Nat → Nat), ci < 7 → u_Kn s (pC ci).1 (pC ci).2.1 (pC ci).2.2 q.1 q.2 := by
    intro ci
    by_cases hci : ci < 7
    · obtain ⟨cC, iS, h⟩ := u_known (ws := lw_tbl) (C := (pC ci).1) (T := (pC ci).2.1) (N := (pC ci).2.2) hts (fun w hw => pww_tbl (pWs hci w hw)) (hts _ (inT_mem (List.all_eq_true.mp g_inst ci (List.mem_range.mpr hci))))
      exact ⟨(cC, iS), fun _ => h⟩
    · exact ⟨(0, fun _ => 0), fun h => absurd h hci⟩
  obtain ⟨f, hf⟩ := Classical.axiomOfChoice h0
  have ha : ∀ ty : FieldType, pIn (.arrayClass ty) = true → ∃ c k comp, s.vm.findClass ("[" ++ ty.toString) = some c ∧ s.vm.classes[c]? = some k ∧ k.kind = .array comp ty := fun ty h => Cond.arrayClass_spec (hts _ (pww_tbl (pIn_mem h)))
  have ho : ∀ C : String, inT (.arrayOver (.object C)) = true → ∃ comp c k, s.vm.findClass C = some comp ∧ s.vm.classes[c]? = some k ∧ k.kind = .array comp (.object C) ∧ s.vm.findClass ("[" ++ (FieldType.object C).toString) = some c := fun C h => by
    obtain ⟨comp, c, k, h1, -, h3, h4, h5⟩ := Cond.arrayOver_spec (hts _ (inT_mem h))
    exact ⟨comp, c, k, h1, h3, h4, h5⟩
  obtain ⟨c7, k7, p7, a1, a2, a3⟩ := ha .int aw_I
  obtain ⟨c8, k8, p8, b1, b2, b3⟩ := ha .long aw_L
  obtain ⟨c9, k9, p9, d1, d2, d3⟩ := ha .boolean aw_Z
  have hov := g_over
  simp only [Bool.and_eq_true] at hov
  obtain ⟨p10, c10, k10, e1, e2, e3, e4⟩ := ho _ hov.1
  obtain ⟨p11, c11, k11, f1, f2, f3, f4⟩ := ho _ hov.2
  refine ⟨(fun k => (f k).1, fun k => (f k).2), fun n => if n = 7 then c7 else if n = 8 then c8 else if n = 9 then c9 else if n = 10 then c10 else c11, fun b9 sa => ⟨fun k q hq => ?_, fun k q hq => ?_⟩⟩
  · have hk : k < 7 := (List.getElem?_eq_some_iff.mp hq).1
    rw [pC_at k hk] at hq
    cases hq
    exact hf k hk
  · match k, hq with
    | 0, hq => cases hq; exact ⟨fun n z => ⟨fun k h => (by cases h), k7, a2, p7, a3⟩, a1⟩
    | 1, hq => cases hq; exact ⟨fun n z => ⟨fun k h => (by cases h), k8, b2, p8, b3⟩, b1⟩
    | 2, hq => cases hq; exact ⟨fun n z => ⟨fun k h => (by cases h), k9, d2, p9, d3⟩, d1⟩
    | 3, hq => cases hq; exact ⟨fun n z => ⟨fun k h => (by cases h), k10, e2, p10, e3⟩, k10, p10, e2, e3, e1, e4⟩
    | 4, hq => cases hq; exact ⟨fun n z => ⟨fun k h => (by cases h), k11, f2, p11, f3⟩, k11, p11, f2, f3, f1, f4⟩
    | k + 5, hq => simp [pTys] at hq
theorem g_ov (hts : ∀ w ∈ lw_tbl, w.before #[Value.ref b] s = true) : OVs s := by
  have hov := g_over
  simp only [Bool.and_eq_true] at hov
  intro a C hC
  have h : (Cond.arrayOver (.object C)).before #[Value.ref b] s = true := by
    rcases hC with rfl | rfl
    · exact hts _ (inT_mem hov.1)
    · exact hts _ (inT_mem hov.2)
  exact h
end Given
theorem sbn_forget {s t : State} {L : List Loc} {k n : Nat} (h : s.sameButNew t L k n) (hL : ∀ z ∈ L, s.heap.size ≤ z.base) : s.sameButNew t [] k n := by
  obtain ⟨h1, h2, h3, h4, h5, h6⟩ := h
  refine ⟨h1, h2, h3, h4, h5, fun a c ha => ?_⟩
  obtain ⟨c', e1, e2, e3, e4⟩ := h6 a c ha
  exact ⟨c', e1, e2, e3, fun i _ => e4 i (fun hm => absurd (hL _ hm) (Nat.not_le.mpr (Array.getElem?_eq_some_iff.mp ha).1))⟩
