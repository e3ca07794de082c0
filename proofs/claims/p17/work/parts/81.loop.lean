theorem kt_F_le {M L : Nat} (h : L ≤ M) : kt_F M L ≤ 3 * M := by
  have := kt_F_b M L
  omega
theorem kt_me_b {B : Int} : ∀ {k : Nat} {n v : Int}, kt_me B k n = some v → 2 * n ≤ 10000 → 2 * v ≤ 10000
  | 0, n, v, h, h2 => by
    have : n = v := Option.some.inj h
    omega
  | k + 1, n, v, h, h2 => by
    unfold kt_me at h
    split at h
    · cases h
    · exact kt_me_b h (by omega)
theorem kt_me_p {B : Int} : ∀ {k : Nat} {n v : Int}, kt_me B k n = some v → v = n * kt_pw B k
  | 0, n, v, h => by
    have : n = v := Option.some.inj h
    rw [← this]
    show n = n * 1
    omega
  | k + 1, n, v, h => by
    unfold kt_me at h
    split at h
    · cases h
    · rw [kt_me_p h]
      show n * B * kt_pw B k = n * (kt_pw B k * B)
      rw [Int.mul_assoc, Int.mul_comm B]
theorem kt_pwN (B : Nat) : ∀ k, kt_pw (B : Int) k = ((B ^ k : Nat) : Int)
  | 0 => rfl
  | k + 1 => by
    show kt_pw (B : Int) k * (B : Int) = _
    rw [kt_pwN B k, Nat.pow_succ]
    exact (Int.natCast_mul _ _).symm
theorem kt_links_fin : ∀ a, a < 8 → ∀ b, b < 8 → ∀ k, k < 6 → 2 * ((a + 2) * (b + 2) + 1) ^ k ≤ 10000 → ((a + 2) * (b + 2) + 1) ^ k * k * (a + b + 2) ≤ 118300 := by decide +kernel
/-- no board that is solved has more moves than the rows of links hold -/
theorem kt_links {gs gm tt : Int32} {L w : Int} (hg : gs.toInt = L * w ∧ gm.toInt = L + w - 2) (hL : 2 ≤ L ∧ L ≤ 9) (hw : 2 ≤ w ∧ w ≤ 9) (ht : 0 ≤ tt.toInt ∧ tt.toInt ≤ 40) : ∀ PL : Int, kt_me (gs.toInt + 1) tt.toInt.toNat 1 = some PL → 0 ≤ PL * tt.toInt * gm.toInt ∧ PL * tt.toInt * gm.toInt ≤ 118300 := by
  intro PL h
  have h2 := kt_me_b h (by omega)
  have h1 := kt_me_p h
  rw [Int.one_mul] at h1
  obtain ⟨a, ha, ea⟩ : ∃ a : Nat, a < 8 ∧ L = ((a + 2 : Nat) : Int) := ⟨(L - 2).toNat, by omega, by omega⟩
  obtain ⟨b, hb, eb⟩ : ∃ b : Nat, b < 8 ∧ w = ((b + 2 : Nat) : Int) := ⟨(w - 2).toNat, by omega, by omega⟩
  obtain ⟨k, ek⟩ : ∃ k : Nat, tt.toInt = (k : Int) := ⟨tt.toInt.toNat, by omega⟩
  have eB : gs.toInt + 1 = (((a + 2) * (b + 2) + 1 : Nat) : Int) := by rw [hg.1, ea, eb, ← Int.natCast_mul]; rfl
  have eM : gm.toInt = ((a + b + 2 : Nat) : Int) := by omega
  rw [eB, show tt.toInt.toNat = k by omega, kt_pwN] at h1
  have h3 : 2 * ((a + 2) * (b + 2) + 1) ^ k ≤ 10000 := by omega
  have hk : k < 6 := by
    rcases Nat.lt_or_ge k 6 with hk | hk
    · exact hk
    · have h4 : 5 ^ 6 ≤ ((a + 2) * (b + 2) + 1) ^ k := Nat.le_trans (Nat.pow_le_pow_right (by decide) hk) (Nat.pow_le_pow_left (by have := Nat.mul_le_mul (show 2 ≤ a + 2 by omega) (show 2 ≤ b + 2 by omega); omega) k)
      omega
  have h5 := kt_links_fin a ha b hb k hk h3
  rw [h1, ek, eM, ← Int.natCast_mul, ← Int.natCast_mul]
  exact ⟨by omega, by omega⟩
theorem kt_gw_le {need had M : Int} (h1 : need ≤ M) (h2 : had ≤ M) (h3 : 0 ≤ had) : (kt_gw need had M : Int) ≤ M := by
  have hg := kt_gw_b need had M
  have hr := kt_rf_b need had M
  rcases Int.lt_or_le had need with h | h
  · rw [hg.1 h]; have := hr.2.2 h1; omega
  · rw [hg.2 h]; omega
theorem kt_cst_le {st sv : Int} {me : Option Int} {LW LS : Nat} {tt gm : Int} (hW : LW ≤ 10000) (hS : LS ≤ 118300) (h : ¬ st = 0 → ∀ P, me = some P → 2 * P ≤ 10000 ∧ P * tt * gm ≤ 118300) : kt_cst st (kt_cost me sv LW LS tt gm) ≤ 286600 := by
  unfold kt_cst
  split
  · omega
  · rename_i hs
    unfold kt_cost
    split
    · cases hm : me with
      | none => show 0 ≤ 286600; omega
      | some P =>
        have h1 := h hs P hm
        have g1 := kt_gw_le (need := 2 * P) (had := (LW : Int)) (M := 10000) (by omega) (by omega) (by omega)
        have g2 := kt_gw_le (need := P * tt * gm) (had := (LS : Int)) (M := 118300) (by omega) (by omega) (by omega)
        show 5 * kt_gw (2 * P) (LW : Int) 10000 + 2 * kt_gw (P * tt * gm) (LS : Int) 118300 ≤ 286600
        omega
    · omega

theorem p2_in {ix k : Int32} {L : Nat} (h : 0 ≤ ix.toInt ∧ ix.toInt + 6 ≤ (L : Int)) (hL : L ≤ 3072) (hk : 0 ≤ k.toInt ∧ k.toInt ≤ 5) : vp_in (ix + k) L := by
  have e := kt_addx (t := ix + k) (x := ix) (y := k) rfl (by omega) (by omega)
  exact kt_in (by omega) (by omega)
