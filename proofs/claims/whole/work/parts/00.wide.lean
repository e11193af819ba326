/-! read over the whole library -/
theorem zz_wide : (1 : Nat) = 1 := by
  have _h := @Jvm.Free.XT.flat
  rfl
