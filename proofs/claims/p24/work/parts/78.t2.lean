theorem kt_goG {ln wd lg lh lr lc lt mho mpc msd mki mdn mun rm mho2 mtk2 msd2 mdn2 mun2 p1 p2 p3 : Int32} {zk za zo zg zm zt za2 zo2 zn2 zt2 zm2 : Nat → Int32} {PN : Nat} (hln : 2 ≤ ln.toInt ∧ ln.toInt ≤ 9) (hwd : 2 ≤ wd.toInt ∧ wd.toInt ≤ 9) (hpi : ¬ mho.toInt = 0 → kt_PI ln wd mpc msd mki mdn mun lt lh zg zk za zo zm zt PN) (hgG : ¬ mho.toInt = 0 → kt_GS PN zg zk (fun k => kt_S (kt_stepf PN wd.toInt ln.toInt zg zk lt lh) (kt_cut PN zt) zm k) (mdn.toInt + mun.toInt)) (HM : (∃ v : Int, kt_WYR mho.toInt p1.toInt p2.toInt p3.toInt PN za zk zo zg lr.toInt wd.toInt ln.toInt msd.toInt (¬ lc = 0 ∧ ∃ k : Nat, k < mdn.toInt.toNat + 1 ∧ (kt_S (kt_stepf PN wd.toInt ln.toInt zg zk lt lh) (kt_cut PN zt) zm k) = (kt_mk PN wd.toInt ln.toInt zg zk lt lh (kt_S (kt_stepf PN wd.toInt ln.toInt zg zk lt lh) (kt_cut PN zt) zm mdn.toInt.toNat) p1.toInt.toNat p2.toInt p3.toInt) ∧ kt_sdk (zt 40).toInt k = kt_sdk (zt 40).toInt (mdn.toInt.toNat + 1)) v ∧ ((¬ v = 0 ∧ rm.toInt = -1 ∧ mho2 = mho ∧ mdn2 = mdn ∧ mun2 = mun ∧ zm2 = zm) ∨ (v = 0 ∧ mho.toInt = 1 ∧ mdn2.toInt = mdn.toInt + 1 ∧ mun2.toInt = 0 ∧ ((0 ≤ p1.toInt ∧ p1.toInt < (PN : Int)) ∧ (0 ≤ p2.toInt ∧ p2.toInt ≤ 3) ∧ (1 ≤ p3.toInt ∧ p3.toInt ≤ 8)) ∧ (∃ m : Int32, m.toInt = (32 * p1.toInt + 8 * p2.toInt + p3.toInt - 1) ∧ zm2 = upd zm mdn.toInt.toNat m) ∧ rm = mtk2))) ∧ (0 ≤ mho2.toInt ∧ mho2.toInt ≤ 4) ∧ (mho.toInt = 0 ↔ mho2.toInt = 0) ∧ (mdn2.toInt + mun2.toInt ≤ mdn.toInt + mun.toInt + 1) ∧ (¬ mho2.toInt = 0 → (kt_PI ln wd mpc msd2 mki mdn2 mun2 lt lh zg zk za2 zo2 zm2 zt2 PN ∧ kt_PD ln wd msd2 mki mdn2 mun2 lt lh mho2 mtk2 lg lr lc zg zk zm2 zt2 zn2 PN) ∧ (∀ j : Nat, j < 41 → zt2 j = zt j))) : ¬ mho2.toInt = 0 → kt_GS PN zg zk (fun k => kt_S (kt_stepf PN wd.toInt ln.toInt zg zk lt lh) (kt_cut PN zt2) zm2 k) (mdn2.toInt + mun2.toInt) := by
  obtain ⟨⟨v, wm, om⟩, q1, q2, q3, q4⟩ := HM
  intro h2
  have h1 : ¬ mho.toInt = 0 := fun h => h2 (q2.mp h)
  have hg := hgG h1
  obtain ⟨⟨⟨y1, y1'⟩, y2, y3, y4, y5⟩, ⟨f1, f2, f3⟩, g1, g2, g3, g4⟩ := hpi h1
  obtain ⟨-, k41⟩ := q4 h2
  have e0 : kt_cut PN zt2 = kt_cut PN zt := kt_cut_eq (fun j hj => k41 j (by omega))
  rw [e0]
  rcases om with ⟨-, -, -, b2, b3, b4⟩ | ⟨b1, -, b3, b4, b5, ⟨m, b6, b7⟩, -⟩
  · rw [b2, b3, b4]
    exact hg
  · obtain ⟨-, w2, w3, -, w5, w6, -⟩ := wm.z b1
    have hS : za p1.toInt.toNat = (kt_S (kt_stepf PN wd.toInt ln.toInt zg zk lt lh) (kt_cut PN zt) zm mdn.toInt.toNat) p1.toInt.toNat := by rw [← g3, kt_cut_in (by omega)]
    have hz := f1 p1.toInt.toNat (by omega)
    have hz2 : ¬ (za p1.toInt.toNat).toInt = -1 := fun h => w3 ((kt_eq _ _).mpr (h.trans kt_cm1.symm))
    rw [hS] at w6 hz hz2
    have h9 := hg.go (d := mdn.toInt.toNat) (p := p1.toInt) (a := p2.toInt) (n := p3.toInt) (by omega) hwd hln b6 b5.1 b5.2.1 b5.2.2 b7 (by omega) w6
    rw [show mdn2.toInt + mun2.toInt = ((mdn.toInt.toNat : Nat) : Int) + 1 by omega]
    exact h9

theorem kt_beginG {ln wd lh lt mpc2 msd2 mki2 mdn2 mun2 : Int32} {fg zm za2 zo2 zt2 zk2 zg2 : Nat → Int32} (hln : 2 ≤ ln.toInt ∧ ln.toInt ≤ 9) (hwd : 2 ≤ wd.toInt ∧ wd.toInt ≤ 9) (hBG : kt_BG fg (kt_sz ln wd) za2 zk2 zo2 mki2) (hGR : ∀ j, j < 81 → zg2 j = kt_grd (kt_bs fg (kt_sz ln wd) j)) (hpi : kt_PI ln wd mpc2 msd2 mki2 mdn2 mun2 lt lh zg2 zk2 za2 zo2 zm zt2 (kt_ct kt_iP fg (kt_sz ln wd))) (h0 : mdn2 = 0 ∧ mun2 = 0) : kt_GS (kt_ct kt_iP fg (kt_sz ln wd)) zg2 zk2 (fun k => kt_S (kt_stepf (kt_ct kt_iP fg (kt_sz ln wd)) wd.toInt ln.toInt zg2 zk2 lt lh) (kt_cut (kt_ct kt_iP fg (kt_sz ln wd)) zt2) zm k) (mdn2.toInt + mun2.toInt) := by
  obtain ⟨⟨⟨y1, y1'⟩, y2, y3, y4, y5⟩, ⟨c1, c2, c3⟩, g1, g2, g3, g4⟩ := hpi
  have hsz := kt_mulb hln hwd
  have hN : kt_sz ln wd ≤ 81 := by
    unfold kt_sz
    omega
  intro k hk p hp
  rw [h0.1, h0.2, kt_c0] at hk
  have hk0 : k = 0 := by omega
  have e0 : kt_cut (kt_ct kt_iP fg (kt_sz ln wd)) za2 = kt_cut (kt_ct kt_iP fg (kt_sz ln wd)) zt2 := by
    rw [g3, h0.1]
    rfl
  rw [hk0]
  show ¬ kt_cut (kt_ct kt_iP fg (kt_sz ln wd)) zt2 p = -1 → zg2 (kt_cut (kt_ct kt_iP fg (kt_sz ln wd)) zt2 p).toInt.toNat = 0 ∨ zk2 p = 2
  rw [← e0, kt_cut_in hp]
  intro hne
  obtain ⟨j, j1, j2, j3⟩ := kt_ct_hit hp
  obtain ⟨a1, a2, -⟩ := (hBG j j1).1 j2
  rw [j3] at a1 a2
  rw [a1, kt_nI (by omega), Int.toNat_natCast, hGR j (by omega), a2]
  unfold kt_bs
  rw [if_pos j1]
  exact kt_iP_grd j2

theorem kt_standL {ln wd lg lh lr lt st dn kn tu kg mho msd mki mdn mun msv rx rm p1 p2 sv pp : Int32} {zk zg fp wo de ta ga zw zd : Nat → Int32} {PN : Nat} (hln : 2 ≤ ln.toInt ∧ ln.toInt ≤ 9) (hwd : 2 ≤ wd.toInt ∧ wd.toInt ≤ 9) (hss : st.toInt = 0 ↔ mho.toInt = 0) (hse : ¬ st.toInt = 0 → st = mho ∧ dn = mdn ∧ tu = msd ∧ kg = mki ∧ kn.toInt = mdn.toInt + mun.toInt) (hsm : sv.toInt = 0 ↔ msv.toInt = 0) (hsx : ¬ sv.toInt = 0 → ¬ st.toInt = 0) (hsvt : ¬ sv.toInt = 0 → kt_SV ((ln.toInt * wd.toInt).toNat + 1) PN kg.toInt.toNat wd.toInt ln.toInt zg zk lr.toInt lg lt lh pp fp wo de ta ga) (hmvt : ¬ msv.toInt = 0 → ∀ s, s < (2 * ((ln.toInt * wd.toInt).toNat + 1) ^ PN) → kt_sol 4 (kt_ev ((ln.toInt * wd.toInt).toNat + 1) PN wd.toInt ln.toInt zg zk lr.toInt lg mki.toInt.toNat) (kt_ed ((ln.toInt * wd.toInt).toNat + 1) PN wd.toInt ln.toInt zg zk lr.toInt lt lh) (fun s => (zw s).toInt) (fun s => (zd s).toInt) s) (HX : (rx.toInt = -1 ∧ ¬ (¬ sv.toInt = 0 ∧ (p2.toInt = 0 ∨ p2.toInt = 1) ∧ 0 ≤ p1.toInt ∧ p1.toInt < pp.toInt)) ∨ ((¬ sv.toInt = 0 ∧ (p2.toInt = 0 ∨ p2.toInt = 1) ∧ 0 ≤ p1.toInt ∧ p1.toInt < pp.toInt) ∧ rx = wo (2 * p1.toInt.toNat + p2.toInt.toNat))) (HM : (rm.toInt = -1 ∧ ¬ (¬ msv.toInt = 0 ∧ (0 ≤ p2.toInt ∧ p2.toInt ≤ 1) ∧ 0 ≤ p1.toInt ∧ p1.toInt < kt_pw (ln.toInt * wd.toInt + 1) PN)) ∨ ((¬ msv.toInt = 0 ∧ (0 ≤ p2.toInt ∧ p2.toInt ≤ 1) ∧ 0 ≤ p1.toInt ∧ p1.toInt < kt_pw (ln.toInt * wd.toInt + 1) PN) ∧ (((zw (2 * p1.toInt.toNat + p2.toInt.toNat)).toInt ≤ 2 ∧ rm.toInt = (zw (2 * p1.toInt.toNat + p2.toInt.toNat)).toInt) ∨ (2 < (zw (2 * p1.toInt.toNat + p2.toInt.toNat)).toInt ∧ rm.toInt = -1)))) : rx = rm := by
  have hsz := kt_mulb hln hwd
  have hBl : ((((ln.toInt * wd.toInt).toNat + 1) : Nat) : Int) = ln.toInt * wd.toInt + 1 := by omega
  by_cases h0 : sv.toInt = 0
  · rcases HX with ⟨a1, a2⟩ | ⟨a1, a2⟩
    · rcases HM with ⟨b1, b2⟩ | ⟨b1, b2⟩
      · exact (kt_eq _ _).mpr (a1.trans b1.symm)
      · exact absurd (hsm.mp h0) b1.1
    · exact absurd h0 a1.1
  · have h0' : ¬ msv.toInt = 0 := fun h => h0 (hsm.mpr h)
    have e : ¬ st.toInt = 0 := hsx h0
    obtain ⟨d1, d2, d3, d4, d5⟩ := hse e
    have hT : ∀ s, s < (2 * ((ln.toInt * wd.toInt).toNat + 1) ^ PN) → (kt_ev ((ln.toInt * wd.toInt).toNat + 1) PN wd.toInt ln.toInt zg zk lr.toInt lg mki.toInt.toNat) s = 3 → ∀ u, (kt_ed ((ln.toInt * wd.toInt).toNat + 1) PN wd.toInt ln.toInt zg zk lr.toInt lt lh) s u → u < (2 * ((ln.toInt * wd.toInt).toNat + 1) ^ PN) := fun s _ _ u hu => kt_ed_lt hwd hln hBl hu
    have hsv1 := hsvt h0
    rw [d4] at hsv1
    obtain ⟨v1, v2, v3, v4, v5⟩ := hsv1
    have hm1 := hmvt (fun h => h0 (hsm.mpr h))
    have htab := kt_tabs hT v4 hm1
    have hpw := kt_pw_n (B := ((ln.toInt * wd.toInt).toNat + 1)) PN
    rw [hBl] at hpw
    rcases HX with ⟨a1, a2⟩ | ⟨a1, a2⟩ <;> rcases HM with ⟨b1, b2⟩ | ⟨b1, b2⟩
    · exact (kt_eq _ _).mpr (a1.trans b1.symm)
    · exact absurd ⟨h0, by omega, by omega, by omega⟩ a2
    · exact absurd ⟨h0', ⟨by omega, by omega⟩, by omega, by omega⟩ b2
    · have h5 := (htab (2 * p1.toInt.toNat + p2.toInt.toNat) (by omega)).2
      refine (kt_eq _ _).mpr ?_
      rw [a2]
      rcases h5 with ⟨-, h6, h7⟩ | ⟨-, h6, h7, h8⟩ <;> rcases b2 with ⟨c1, c2⟩ | ⟨c1, c2⟩ <;> omega
