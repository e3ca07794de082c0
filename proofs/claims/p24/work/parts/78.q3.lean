theorem kt_dg_0 (B p : Nat) : kt_dg B 0 p = 0 := by
  unfold kt_dg
  rw [Nat.zero_div, Nat.zero_mod]
