theorem kt_F_le {M L : Nat} (h : L ≤ M) : kt_F M L ≤ 3 * M := by
  have := kt_F_b M L
  omega
theorem kt_me_b {B : Int} : ∀ {k : Nat} {n v : Int}, kt_me B k n = some v → 2 * n ≤ 10000 → 2 * v ≤ 10000
  | 0, n, v, h, h2 => by
    have : n = v := Option.some.inj h
    omega
  | k + 1, n, v, h, h2 => by
    unfold kt_me at h
    split at h
    · cases h
    · exact kt_me_b h (by omega)
theorem kt_me_p {B : Int} : ∀ {k : Nat} {n v : Int}, kt_me B k n = some v → v = n * kt_pw B k
  | 0, n, v, h => by
    have : n = v := Option.some.inj h
    rw [← this]
    show n = n * 1
    omega
  | k + 1, n, v, h => by
    unfold kt_me at h
    split at h
    · cases h
    · rw [kt_me_p h]
      show n * B * kt_pw B k = n * (kt_pw B k * B)
      rw [Int.mul_assoc, Int.mul_comm B]
theorem kt_pwN (B : Nat) : ∀ k, kt_pw (B : Int) k = ((B ^ k : Nat) : Int)
  | 0 => rfl
  | k + 1 => by
    show kt_pw (B : Int) k * (B : Int) = _
    rw [kt_pwN B k, Nat.pow_succ]
    exact (Int.natCast_mul _ _).symm
theorem kt_links_fin : ∀ a, a < 8 → ∀ b, b < 8 → ∀ k, k < 6 → 2 * ((a + 2) * (b + 2) + 1) ^ k ≤ 10000 → ((a + 2) * (b + 2) + 1) ^ k * k * (a + b + 2) ≤ 118300 := by decide +kernel
/-- no board that is solved has more moves than the rows of links hold -/
theorem kt_links {gs gm tt : Int32} {L w : Int} (hg : gs.toInt = L * w ∧ gm.toInt = L + w - 2) (hL : 2 ≤ L ∧ L ≤ 9) (hw : 2 ≤ w ∧ w ≤ 9) (ht : 0 ≤ tt.toInt ∧ tt.toInt ≤ 40) : ∀ PL : Int, kt_me (gs.toInt + 1) tt.toInt.toNat 1 = some PL → 0 ≤ PL * tt.toInt * gm.toInt ∧ PL * tt.toInt * gm.toInt ≤ 118300 := by
  intro PL h
  have h2 := kt_me_b h (by omega)
  have h1 := kt_me_p h
  rw [Int.one_mul] at h1
  obtain ⟨a, ha, ea⟩ : ∃ a : Nat, a < 8 ∧ L = ((a + 2 : Nat) : Int) := ⟨(L - 2).toNat, by omega, by omega⟩
  obtain ⟨b, hb, eb⟩ : ∃ b : Nat, b < 8 ∧ w = ((b + 2 : Nat) : Int) := ⟨(w - 2).toNat, by omega, by omega⟩
  obtain ⟨k, ek⟩ : ∃ k : Nat, tt.toInt = (k : Int) := ⟨tt.toInt.toNat, by omega⟩
  have eB : gs.toInt + 1 = (((a + 2) * (b + 2) + 1 : Nat) : Int) := by rw [hg.1, ea, eb, ← Int.natCast_mul]; rfl
  have eM : gm.toInt = ((a + b + 2 : Nat) : Int) := by omega
  rw [eB, show tt.toInt.toNat = k by omega, kt_pwN] at h1
  have h3 : 2 * ((a + 2) * (b + 2) + 1) ^ k ≤ 10000 := by omega
  have hk : k < 6 := by
    rcases Nat.lt_or_ge k 6 with hk | hk
    · exact hk
    · have h4 : 5 ^ 6 ≤ ((a + 2) * (b + 2) + 1) ^ k := Nat.le_trans (Nat.pow_le_pow_right (by decide) hk) (Nat.pow_le_pow_left (by have := Nat.mul_le_mul (show 2 ≤ a + 2 by omega) (show 2 ≤ b + 2 by omega); omega) k)
      omega
  have h5 := kt_links_fin a ha b hb k hk h3
  rw [h1, ek, eM, ← Int.natCast_mul, ← Int.natCast_mul]
  exact ⟨by omega, by omega⟩
theorem kt_gw_le {need had M : Int} (h1 : need ≤ M) (h2 : had ≤ M) (h3 : 0 ≤ had) : (kt_gw need had M : Int) ≤ M := by
  have hg := kt_gw_b need had M
  have hr := kt_rf_b need had M
  rcases Int.lt_or_le had need with h | h
  · rw [hg.1 h]; have := hr.2.2 h1; omega
  · rw [hg.2 h]; omega
theorem kt_cst_le {st sv : Int} {me : Option Int} {LW LS : Nat} {tt gm : Int} (hW : LW ≤ 10000) (hS : LS ≤ 118300) (h : ¬ st = 0 → ∀ P, me = some P → 2 * P ≤ 10000 ∧ P * tt * gm ≤ 118300) : kt_cst st (kt_cost me sv LW LS tt gm) ≤ 286600 := by
  unfold kt_cst
  split
  · omega
  · rename_i hs
    unfold kt_cost
    split
    · cases hm : me with
      | none => show 0 ≤ 286600; omega
      | some P =>
        have h1 := h hs P hm
        have g1 := kt_gw_le (need := 2 * P) (had := (LW : Int)) (M := 10000) (by omega) (by omega) (by omega)
        have g2 := kt_gw_le (need := P * tt * gm) (had := (LS : Int)) (M := 118300) (by omega) (by omega) (by omega)
        show 5 * kt_gw (2 * P) (LW : Int) 10000 + 2 * kt_gw (P * tt * gm) (LS : Int) 118300 ≤ 286600
        omega
    · omega

theorem p2_in {ix k : Int32} {L : Nat} (h : 0 ≤ ix.toInt ∧ ix.toInt + 6 ≤ (L : Int)) (hL : L ≤ 3072) (hk : 0 ≤ k.toInt ∧ k.toInt ≤ 5) : vp_in (ix + k) L := by
  have e := kt_addx (t := ix + k) (x := ix) (y := k) rfl (by omega) (by omega)
  exact kt_in (by omega) (by omega)

/-- what is known of a solved board: how many stands count -/
def kt_HC (sv ct gs tt : Int32) (L w : Int) (PN : Nat) (zg zk : Nat → Int32) : Prop := ¬ sv.toInt = 0 → ∃ PL : Int, kt_me (gs.toInt + 1) tt.toInt.toNat 1 = some PL ∧ ct.toInt = 2 * ((kt_gc (fun vq => kt_gdp (L * w) zg zk (fun p => ((kt_dg (gs.toInt.toNat + 1) vq p : Nat) : Int)) PN) PL.toNat : Nat) : Int)
theorem kt_me_no {B : Int} (hB : 1 ≤ B) : ∀ {k : Nat} {n : Int}, 1 ≤ n → kt_me B k n = none → 10000 < 2 * (n * kt_pw B k)
  | 0, n, hn, h => by cases h
  | k + 1, n, hn, h => by
    have e : n * (kt_pw B k * B) = n * B * kt_pw B k := by rw [Int.mul_comm (kt_pw B k) B, Int.mul_assoc]
    have h0 := kt_mulp hn hB
    show 10000 < 2 * (n * (kt_pw B k * B))
    rw [e]
    unfold kt_me at h
    split at h
    · rename_i hc
      have h1 := kt_pw_1 hB k
      have h2 : n * B * 1 ≤ n * B * kt_pw B k := Int.mul_le_mul_of_nonneg_left h1 (by omega)
      rw [Int.mul_one] at h2
      omega
    · exact kt_me_no hB h0 h
theorem kt_solveL {st sv sv2 ct ct2 mho msv msv2 gs tt rx rm : Int32} {L w : Int} {PN : Nat} {zg zk : Nat → Int32} (hss : st.toInt = 0 ↔ mho.toInt = 0) (hg : ¬ st.toInt = 0 → gs.toInt = L * w ∧ tt.toInt = (PN : Int)) (hLw : 4 ≤ L * w ∧ L * w ≤ 81) (hct : kt_HC sv ct gs tt L w PN zg zk) (hsx : ¬ sv.toInt = 0 → ¬ st.toInt = 0) (HX : ((st.toInt = 0 ∧ rx.toInt = -1 ∧ sv2 = sv ∧ ct2 = ct) ∨ (¬ st.toInt = 0 ∧ ((¬ sv.toInt = 0 ∧ rx = ct ∧ ct2 = ct ∧ sv2 = sv) ∨ (sv.toInt = 0 ∧ kt_me (gs.toInt + 1) tt.toInt.toNat 1 = none ∧ rx.toInt = -1 ∧ sv2 = sv ∧ ct2 = ct) ∨ (sv.toInt = 0 ∧ ∃ PL : Int, kt_me (gs.toInt + 1) tt.toInt.toNat 1 = some PL ∧ rx.toInt = 2 * (kt_gc (fun vq => kt_gdp (L * w) zg zk (fun p => ((kt_dg (gs.toInt.toNat + 1) vq p : Nat) : Int)) PN) PL.toNat : Int) ∧ ct2 = rx ∧ sv2 = 1))))) (HM : (((mho.toInt = 0 ∨ 10000 < 2 * kt_pw (L * w + 1) PN) ∧ rm.toInt = -1 ∧ msv2 = msv) ∨ (¬ mho.toInt = 0 ∧ 2 * kt_pw (L * w + 1) PN ≤ 10000 ∧ rm.toInt = 2 * ((kt_gc (fun v => kt_gdp (L * w) zg zk (fun p => ((kt_dg ((L * w).toNat + 1) v p : Nat) : Int)) PN) (kt_pw (L * w + 1) PN).toNat : Nat) : Int) ∧ msv2 = 1))) : rx = rm ∧ (kt_HC sv2 ct2 gs tt L w PN zg zk) ∧ (st.toInt = 0 → sv2 = sv) := by
  by_cases h0 : st.toInt = 0
  · rcases HX with ⟨-, a, b, -⟩ | ⟨h, -⟩
    · rcases HM with ⟨-, d, -⟩ | ⟨h, -⟩
      · exact ⟨(kt_eq _ _).mpr (a.trans d.symm), fun h => absurd h0 (hsx (by rw [← b]; exact h)), fun _ => b⟩
      · exact absurd (hss.mp h0) h
    · exact absurd h0 h
  · obtain ⟨hg1, hg2⟩ := hg h0
    have hPW : ∀ PL : Int, kt_me (gs.toInt + 1) tt.toInt.toNat 1 = some PL → PL = kt_pw (L * w + 1) PN ∧ 2 * PL ≤ 10000 := by
      intro PL h
      have h1 := kt_me_p h
      have h2 := kt_me_b h (by omega)
      rw [hg1, Int.one_mul, show tt.toInt.toNat = PN by omega] at h1
      exact ⟨h1, h2⟩
    have eG : gs.toInt.toNat = (L * w).toNat := by rw [hg1]
    rcases HX with ⟨h, -⟩ | ⟨-, ⟨h1, h2, h3, h4⟩ | ⟨h1, h2, h3, h4, h5⟩ | ⟨h1, PL, h2, h3, h4, h5⟩⟩
    · exact absurd h h0
    · obtain ⟨PL, e1, e2⟩ := hct h1
      obtain ⟨e3, e4⟩ := hPW PL e1
      rcases HM with ⟨h, -, -⟩ | ⟨-, -, g3, -⟩
      · exfalso
        rcases h with h | h
        · exact h0 (hss.mpr h)
        · omega
      · refine ⟨(kt_eq _ _).mpr ?_, fun _ => ⟨PL, e1, by rw [h3]; exact e2⟩, fun h => absurd h h0⟩
        rw [h2, e2, g3, e3, eG]
    · have hn := kt_me_no (by omega) (by omega) h2
      rw [Int.one_mul, hg1, show tt.toInt.toNat = PN by omega] at hn
      rcases HM with ⟨-, g, -⟩ | ⟨-, g, -⟩
      · exact ⟨(kt_eq _ _).mpr (h3.trans g.symm), fun h => absurd h1 (by rw [← h4]; exact h), fun h => absurd h h0⟩
      · exfalso
        omega
    · obtain ⟨e3, e4⟩ := hPW PL h2
      rcases HM with ⟨h, -, -⟩ | ⟨-, -, g3, -⟩
      · exfalso
        rcases h with h | h
        · exact h0 (hss.mpr h)
        · omega
      · refine ⟨(kt_eq _ _).mpr ?_, fun _ => ⟨PL, h2, by rw [h4]; exact h3⟩, fun h => absurd h h0⟩
        rw [h3, g3, e3, eG]
