theorem kt_F_le {M L : Nat} (h : L ≤ M) : kt_F M L ≤ 3 * M := by
  have := kt_F_b M L
  omega
theorem kt_me_b {B : Int} : ∀ {k : Nat} {n v : Int}, kt_me B k n = some v → 2 * n ≤ 10000 → 2 * v ≤ 10000
  | 0, n, v, h, h2 => by
    have : n = v := Option.some.inj h
    omega
  | k + 1, n, v, h, h2 => by
    unfold kt_me at h
    split at h
    · cases h
    · exact kt_me_b h (by omega)
theorem kt_me_p {B : Int} : ∀ {k : Nat} {n v : Int}, kt_me B k n = some v → v = n * kt_pw B k
  | 0, n, v, h => by
    have : n = v := Option.some.inj h
    rw [← this]
    show n = n * 1
    omega
  | k + 1, n, v, h => by
    unfold kt_me at h
    split at h
    · cases h
    · rw [kt_me_p h]
      show n * B * kt_pw B k = n * (kt_pw B k * B)
      rw [Int.mul_assoc, Int.mul_comm B]
theorem kt_pwN (B : Nat) : ∀ k, kt_pw (B : Int) k = ((B ^ k : Nat) : Int)
  | 0 => rfl
  | k + 1 => by
    show kt_pw (B : Int) k * (B : Int) = _
    rw [kt_pwN B k, Nat.pow_succ]
    exact (Int.natCast_mul _ _).symm
theorem kt_links_fin : ∀ a, a < 8 → ∀ b, b < 8 → ∀ k, k < 6 → 2 * ((a + 2) * (b + 2) + 1) ^ k ≤ 10000 → ((a + 2) * (b + 2) + 1) ^ k * k * (a + b + 2) ≤ 118300 := by decide +kernel
/-- no board that is solved has more moves than the rows of links hold -/
theorem kt_links {gs gm tt : Int32} {L w : Int} (hg : gs.toInt = L * w ∧ gm.toInt = L + w - 2) (hL : 2 ≤ L ∧ L ≤ 9) (hw : 2 ≤ w ∧ w ≤ 9) (ht : 0 ≤ tt.toInt ∧ tt.toInt ≤ 40) : ∀ PL : Int, kt_me (gs.toInt + 1) tt.toInt.toNat 1 = some PL → 0 ≤ PL * tt.toInt * gm.toInt ∧ PL * tt.toInt * gm.toInt ≤ 118300 := by
  intro PL h
  have h2 := kt_me_b h (by omega)
  have h1 := kt_me_p h
  rw [Int.one_mul] at h1
  obtain ⟨a, ha, ea⟩ : ∃ a : Nat, a < 8 ∧ L = ((a + 2 : Nat) : Int) := ⟨(L - 2).toNat, by omega, by omega⟩
  obtain ⟨b, hb, eb⟩ : ∃ b : Nat, b < 8 ∧ w = ((b + 2 : Nat) : Int) := ⟨(w - 2).toNat, by omega, by omega⟩
  obtain ⟨k, ek⟩ : ∃ k : Nat, tt.toInt = (k : Int) := ⟨tt.toInt.toNat, by omega⟩
  have eB : gs.toInt + 1 = (((a + 2) * (b + 2) + 1 : Nat) : Int) := by rw [hg.1, ea, eb, ← Int.natCast_mul]; rfl
  have eM : gm.toInt = ((a + b + 2 : Nat) : Int) := by omega
  rw [eB, show tt.toInt.toNat = k by omega, kt_pwN] at h1
  have h3 : 2 * ((a + 2) * (b + 2) + 1) ^ k ≤ 10000 := by omega
  have hk : k < 6 := by
    rcases Nat.lt_or_ge k 6 with hk | hk
    · exact hk
    · have h4 : 5 ^ 6 ≤ ((a + 2) * (b + 2) + 1) ^ k := Nat.le_trans (Nat.pow_le_pow_right (by decide) hk) (Nat.pow_le_pow_left (by have := Nat.mul_le_mul (show 2 ≤ a + 2 by omega) (show 2 ≤ b + 2 by omega); omega) k)
      omega
  have h5 := kt_links_fin a ha b hb k hk h3
  rw [h1, ek, eM, ← Int.natCast_mul, ← Int.natCast_mul]
  exact ⟨by omega, by omega⟩
theorem kt_gw_le {need had M : Int} (h1 : need ≤ M) (h2 : had ≤ M) (h3 : 0 ≤ had) : (kt_gw need had M : Int) ≤ M := by
  have hg := kt_gw_b need had M
  have hr := kt_rf_b need had M
  rcases Int.lt_or_le had need with h | h
  · rw [hg.1 h]; have := hr.2.2 h1; omega
  · rw [hg.2 h]; omega
theorem kt_cst_le {st sv : Int} {me : Option Int} {LW LS : Nat} {tt gm : Int} (hW : LW ≤ 10000) (hS : LS ≤ 118300) (h : ¬ st = 0 → ∀ P, me = some P → 2 * P ≤ 10000 ∧ P * tt * gm ≤ 118300) : kt_cst st (kt_cost me sv LW LS tt gm) ≤ 286600 := by
  unfold kt_cst
  split
  · omega
  · rename_i hs
    unfold kt_cost
    split
    · cases hm : me with
      | none => show 0 ≤ 286600; omega
      | some P =>
        have h1 := h hs P hm
        have g1 := kt_gw_le (need := 2 * P) (had := (LW : Int)) (M := 10000) (by omega) (by omega) (by omega)
        have g2 := kt_gw_le (need := P * tt * gm) (had := (LS : Int)) (M := 118300) (by omega) (by omega) (by omega)
        show 5 * kt_gw (2 * P) (LW : Int) 10000 + 2 * kt_gw (P * tt * gm) (LS : Int) 118300 ≤ 286600
        omega
    · omega

theorem p2_in {ix k : Int32} {L : Nat} (h : 0 ≤ ix.toInt ∧ ix.toInt + 6 ≤ (L : Int)) (hL : L ≤ 3072) (hk : 0 ≤ k.toInt ∧ k.toInt ≤ 5) : vp_in (ix + k) L := by
  have e := kt_addx (t := ix + k) (x := ix) (y := k) rfl (by omega) (by omega)
  exact kt_in (by omega) (by omega)

theorem kt_me_no {B : Int} (hB : 1 ≤ B) : ∀ {k : Nat} {n : Int}, 1 ≤ n → kt_me B k n = none → 10000 < 2 * (n * kt_pw B k)
  | 0, n, hn, h => by cases h
  | k + 1, n, hn, h => by
    have e : n * (kt_pw B k * B) = n * B * kt_pw B k := by rw [Int.mul_comm (kt_pw B k) B, Int.mul_assoc]
    have h0 := kt_mulp hn hB
    show 10000 < 2 * (n * (kt_pw B k * B))
    rw [e]
    unfold kt_me at h
    split at h
    · rename_i hc
      have h1 := kt_pw_1 hB k
      have h2 : n * B * 1 ≤ n * B * kt_pw B k := Int.mul_le_mul_of_nonneg_left h1 (by omega)
      rw [Int.mul_one] at h2
      omega
    · exact kt_me_no hB h0 h
theorem kt_solveT {ln wd lg lh lr lt st kg tt gs mho mki msv rx rm sv2 msv2 sv pp pp2 ct ct2 : Int32} {zk zg fp wo de ta ga fp2 wo2 de2 ta2 ga2 zw zd zw2 zd2 : Nat → Int32} {PN : Nat} (hln : 2 ≤ ln.toInt ∧ ln.toInt ≤ 9) (hwd : 2 ≤ wd.toInt ∧ wd.toInt ≤ 9) (hss : st.toInt = 0 ↔ mho.toInt = 0) (hg : ¬ st.toInt = 0 → gs.toInt = ln.toInt * wd.toInt ∧ tt.toInt = (PN : Int)) (hkg : ¬ st.toInt = 0 → kg = mki) (hsm : sv.toInt = 0 ↔ msv.toInt = 0) (hsx : ¬ sv.toInt = 0 → ¬ st.toInt = 0) (hsv : ¬ msv.toInt = 0 → ¬ mho.toInt = 0 ∧ 2 * kt_pw (ln.toInt * wd.toInt + 1) PN ≤ 10000) (hsvt : ¬ sv.toInt = 0 → kt_SV ((ln.toInt * wd.toInt).toNat + 1) PN kg.toInt.toNat wd.toInt ln.toInt zg zk lr.toInt lg lt lh pp fp wo de ta ga) (HX : ((st.toInt = 0 ∧ rx.toInt = -1 ∧ sv2 = sv ∧ ct2 = ct) ∨ (¬ st.toInt = 0 ∧ ((¬ sv.toInt = 0 ∧ rx = ct ∧ ct2 = ct ∧ sv2 = sv ∧ wo2 = wo ∧ de2 = de ∧ ta2 = ta ∧ ga2 = ga ∧ fp2 = fp ∧ pp2 = pp) ∨ (sv.toInt = 0 ∧ kt_me (gs.toInt + 1) tt.toInt.toNat 1 = none ∧ rx.toInt = -1 ∧ sv2 = sv ∧ ct2 = ct) ∨ (sv.toInt = 0 ∧ (∃ PL : Int, kt_me (gs.toInt + 1) tt.toInt.toNat 1 = some PL ∧ rx.toInt = 2 * (kt_gc (fun vq => kt_gdp (ln.toInt * wd.toInt) zg zk (fun p => ((kt_dg (gs.toInt.toNat + 1) vq p : Nat) : Int)) PN) PL.toNat : Int) ∧ ct2 = rx ∧ sv2 = 1) ∧ kt_SV (gs.toInt.toNat + 1) PN kg.toInt.toNat wd.toInt ln.toInt zg zk lr.toInt lg lt lh pp2 fp2 wo2 de2 ta2 ga2))))) (HM : (((mho.toInt = 0 ∨ 10000 < 2 * kt_pw (ln.toInt * wd.toInt + 1) PN) ∧ rm.toInt = -1 ∧ msv2 = msv ∧ zw2 = zw ∧ zd2 = zd) ∨ (¬ mho.toInt = 0 ∧ 2 * kt_pw (ln.toInt * wd.toInt + 1) PN ≤ 10000 ∧ rm.toInt = 2 * ((kt_gc (fun v => kt_gdp (ln.toInt * wd.toInt) zg zk (fun p => ((kt_dg ((ln.toInt * wd.toInt).toNat + 1) v p : Nat) : Int)) PN) (kt_pw (ln.toInt * wd.toInt + 1) PN).toNat : Nat) : Int) ∧ msv2 = 1 ∧ ∀ s, s < (2 * ((ln.toInt * wd.toInt).toNat + 1) ^ PN) → kt_sol 4 (kt_ev ((ln.toInt * wd.toInt).toNat + 1) PN wd.toInt ln.toInt zg zk lr.toInt lg mki.toInt.toNat) (kt_ed ((ln.toInt * wd.toInt).toNat + 1) PN wd.toInt ln.toInt zg zk lr.toInt lt lh) (fun s => (zw2 s).toInt) (fun s => (zd2 s).toInt) s))) : (sv2.toInt = 0 ↔ msv2.toInt = 0) ∧ (¬ sv2.toInt = 0 → kt_SV ((ln.toInt * wd.toInt).toNat + 1) PN kg.toInt.toNat wd.toInt ln.toInt zg zk lr.toInt lg lt lh pp2 fp2 wo2 de2 ta2 ga2) ∧ (¬ msv2.toInt = 0 → ∀ s, s < (2 * ((ln.toInt * wd.toInt).toNat + 1) ^ PN) → kt_sol 4 (kt_ev ((ln.toInt * wd.toInt).toNat + 1) PN wd.toInt ln.toInt zg zk lr.toInt lg mki.toInt.toNat) (kt_ed ((ln.toInt * wd.toInt).toNat + 1) PN wd.toInt ln.toInt zg zk lr.toInt lt lh) (fun s => (zw2 s).toInt) (fun s => (zd2 s).toInt) s) ∧ (st.toInt = 0 → sv2 = sv) := by
  have hsz := kt_mulb hln hwd
  by_cases h0 : st.toInt = 0
  · have hs0 : sv.toInt = 0 := Classical.byContradiction (fun h => hsx h h0)
    have hm0 := hsm.mp hs0
    rcases HX with ⟨-, -, b, -⟩ | ⟨h, -⟩
    · rcases HM with ⟨-, -, c, -, -⟩ | ⟨h, -⟩
      · rw [b, c]
        exact ⟨hsm, fun h => absurd hs0 h, fun h => absurd hm0 h, fun _ => rfl⟩
      · exact absurd (hss.mp h0) h
    · exact absurd h0 h
  · obtain ⟨hg1, hg2⟩ := hg h0
    have eG : gs.toInt.toNat = (ln.toInt * wd.toInt).toNat := by rw [hg1]
    have hPW : ∀ PL : Int, kt_me (gs.toInt + 1) tt.toInt.toNat 1 = some PL → 2 * kt_pw (ln.toInt * wd.toInt + 1) PN ≤ 10000 := by
      intro PL h
      have h1 := kt_me_p h
      have h2 := kt_me_b h (by omega)
      rw [hg1, Int.one_mul, show tt.toInt.toNat = PN by omega] at h1
      omega
    rcases HX with ⟨h, -⟩ | ⟨-, ⟨h1, -, -, h4, a1, a2, a3, a4, a5, a6⟩ | ⟨h1, h2, -, h4, -⟩ | ⟨h1, ⟨PL, h2, -, -, h5⟩, h6⟩⟩
    · exact absurd h h0
    · have hmv := hsv (fun h => h1 (hsm.mpr h))
      rcases HM with ⟨h, -⟩ | ⟨-, -, -, m1, tab⟩
      · exfalso
        rcases h with h | h
        · exact hmv.1 h
        · omega
      · rw [h4, m1, a1, a2, a3, a4, a5, a6]
        exact ⟨⟨fun h => absurd h h1, fun h => absurd h (by decide)⟩, hsvt, fun _ => tab, fun h => absurd h h0⟩
    · have hn := kt_me_no (by omega) (by omega) h2
      rw [Int.one_mul, hg1, show tt.toInt.toNat = PN by omega] at hn
      rcases HM with ⟨-, -, c, -, -⟩ | ⟨-, g, -⟩
      · rw [h4, c]
        exact ⟨hsm, fun h => absurd h1 h, fun h => absurd (hsm.mp h1) h, fun _ => rfl⟩
      · exfalso
        omega
    · have hpw := hPW PL h2
      rcases HM with ⟨h, -⟩ | ⟨-, -, -, m1, tab⟩
      · exfalso
        rcases h with h | h
        · exact h0 (hss.mpr h)
        · omega
      · rw [h5, m1]
        rw [eG] at h6
        exact ⟨⟨fun h => absurd h (by decide), fun h => absurd h (by decide)⟩, fun _ => h6, fun _ => tab, fun h => absurd h h0⟩

theorem kt_whyG {ln wd lg lh lr lc lt mho mpc msd mki mdn mun rm mtk2 msd2 p1 p2 p3 : Int32} {zk za zo zg zm zt za2 zo2 zn2 zt2 : Nat → Int32} {PN : Nat} (hpi : ¬ mho.toInt = 0 → kt_PI ln wd mpc msd mki mdn mun lt lh zg zk za zo zm zt PN) (hgG : ¬ mho.toInt = 0 → kt_GS PN zg zk (fun k => kt_S (kt_stepf PN wd.toInt ln.toInt zg zk lt lh) (kt_cut PN zt) zm k) (mdn.toInt + mun.toInt)) (HM : (kt_WYR mho.toInt p1.toInt p2.toInt p3.toInt PN za zk zo zg lr.toInt wd.toInt ln.toInt msd.toInt (¬ lc = 0 ∧ ∃ k : Nat, k < mdn.toInt.toNat + 1 ∧ (kt_S (kt_stepf PN wd.toInt ln.toInt zg zk lt lh) (kt_cut PN zt) zm k) = (kt_mk PN wd.toInt ln.toInt zg zk lt lh (kt_S (kt_stepf PN wd.toInt ln.toInt zg zk lt lh) (kt_cut PN zt) zm mdn.toInt.toNat) p1.toInt.toNat p2.toInt p3.toInt) ∧ kt_sdk (zt 40).toInt k = kt_sdk (zt 40).toInt (mdn.toInt.toNat + 1)) rm.toInt ∧ (rm.toInt = 0 → mho.toInt = 1 ∧ ((0 ≤ p1.toInt ∧ p1.toInt < (PN : Int)) ∧ (0 ≤ p2.toInt ∧ p2.toInt ≤ 3) ∧ (1 ≤ p3.toInt ∧ p3.toInt ≤ 8) ∧ 0 ≤ (za p1.toNatClampNeg).toInt ∧ p3.toInt ≤ kt_rom (za p1.toNatClampNeg).toInt wd.toInt ln.toInt p2.toInt ∧ ∀ q, q < PN → ¬ za q = nI (kt_al (za p1.toNatClampNeg).toInt wd.toInt ln.toInt p2.toInt p3.toInt).toNat) ∧ kt_side (zk p1.toNatClampNeg) = msd.toInt)) ∧ (¬ mho.toInt = 0 → kt_PI ln wd mpc msd2 mki mdn mun lt lh zg zk za2 zo2 zm zt2 PN ∧ kt_cut PN za2 = kt_cut PN za ∧ msd2 = msd ∧ kt_PD ln wd msd2 mki mdn mun lt lh mho mtk2 lg lr lc zg zk zm zt2 zn2 PN ∧ (∀ j : Nat, (j : Int) < 41 * (mdn.toInt + 1) → zt2 j = zt j))) : ¬ mho.toInt = 0 → kt_GS PN zg zk (fun k => kt_S (kt_stepf PN wd.toInt ln.toInt zg zk lt lh) (kt_cut PN zt2) zm k) (mdn.toInt + mun.toInt) := by
  obtain ⟨-, q⟩ := HM
  intro h1
  have hg := hgG h1
  obtain ⟨⟨⟨y1, y1'⟩, y2, y3, y4, y5⟩, ⟨f1, f2, f3⟩, g1, g2, g3, g4⟩ := hpi h1
  obtain ⟨-, -, -, -, k41⟩ := q h1
  have e0 : kt_cut PN zt2 = kt_cut PN zt := kt_cut_eq (fun j hj => k41 j (by omega))
  rw [e0]
  exact hg
