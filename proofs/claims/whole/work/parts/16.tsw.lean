theorem pw_tsw {M : pT} {Q : pQ} {pc : Nat} {L : List (Nat × Value)} {st : List Value} {n : Nat} {I : pI} {J : pJ} {P : pP} {kc ks : Nat} {dflt lo hi : Int} {offs : Array Int} {len : Nat} {x : Int32} (hd : decode (pT.cc M) pc = .ok (.tableswitch dflt lo hi offs, len))
    (kin : ∀ i : Nat, lo + i ≤ hi → x = Int32.ofInt (lo + i) → ∃ (off : Int) (tgt : Nat), offs[i]? = some off ∧ (pc : Int) + off = (tgt : Int) ∧ PW M Q tgt L st n I J P kc ks)
    (kout : (x.toInt < lo ∨ hi < x.toInt) → ∃ tgt : Nat, (pc : Int) + dflt = (tgt : Int) ∧ PW M Q tgt L st n I J P kc ks) : PW M Q pc L (.int x :: st) n I J P kc ks := by
  by_cases h1 : x.toInt < lo
  · obtain ⟨tgt, h, k⟩ := kout (Or.inl h1)
    exact pw_tableOut hd (Or.inl h1) h k
  · by_cases h2 : hi < x.toInt
    · obtain ⟨tgt, h, k⟩ := kout (Or.inr h2)
      exact pw_tableOut hd (Or.inr h2) h k
    · have e1 : lo + ((x.toInt - lo).toNat : Int) = x.toInt := by omega
      obtain ⟨off, tgt, h, h3, k⟩ := kin (x.toInt - lo).toNat (by omega) (by rw [e1]; exact (Int32.ofInt_toInt x).symm)
      exact pw_tableIn hd h1 h2 h h3 k
theorem rvq {α β : Type} {p : Prop} {a b : α} {c d : β} (h : p ∧ a = b ∧ c = d) : p ∧ b = a ∧ d = c := ⟨h.1, h.2.1.symm, h.2.2.symm⟩
theorem rvv {α β : Type} {a b : α} {c d : β} (h : a = b ∧ c = d) : b = a ∧ d = c := ⟨h.1.symm, h.2.symm⟩
