theorem kt_goG {ln wd lg lh lr lc lt mho mpc msd mki mdn mun rm mho2 mtk2 msd2 mdn2 mun2 p1 p2 p3 : Int32} {zk za zo zg zm zt za2 zo2 zn2 zt2 zm2 : Nat → Int32} {PN : Nat} (hln : 2 ≤ ln.toInt ∧ ln.toInt ≤ 9) (hwd : 2 ≤ wd.toInt ∧ wd.toInt ≤ 9) (hpi : ¬ mho.toInt = 0 → kt_PI ln wd mpc msd mki mdn mun lt lh zg zk za zo zm zt PN) (hgG : ¬ mho.toInt = 0 → kt_GS PN zg zk (fun k => kt_S (kt_stepf PN wd.toInt ln.toInt zg zk lt lh) (kt_cut PN zt) zm k) (mdn.toInt + mun.toInt)) (HM : (∃ v : Int, kt_WYR mho.toInt p1.toInt p2.toInt p3.toInt PN za zk zo zg lr.toInt wd.toInt ln.toInt msd.toInt (¬ lc = 0 ∧ ∃ k : Nat, k < mdn.toInt.toNat + 1 ∧ (kt_S (kt_stepf PN wd.toInt ln.toInt zg zk lt lh) (kt_cut PN zt) zm k) = (kt_mk PN wd.toInt ln.toInt zg zk lt lh (kt_S (kt_stepf PN wd.toInt ln.toInt zg zk lt lh) (kt_cut PN zt) zm mdn.toInt.toNat) p1.toInt.toNat p2.toInt p3.toInt) ∧ kt_sdk (zt 40).toInt k = kt_sdk (zt 40).toInt (mdn.toInt.toNat + 1)) v ∧ ((¬ v = 0 ∧ rm.toInt = -1 ∧ mho2 = mho ∧ mdn2 = mdn ∧ mun2 = mun ∧ zm2 = zm) ∨ (v = 0 ∧ mho.toInt = 1 ∧ mdn2.toInt = mdn.toInt + 1 ∧ mun2.toInt = 0 ∧ ((0 ≤ p1.toInt ∧ p1.toInt < (PN : Int)) ∧ (0 ≤ p2.toInt ∧ p2.toInt ≤ 3) ∧ (1 ≤ p3.toInt ∧ p3.toInt ≤ 8)) ∧ (∃ m : Int32, m.toInt = (32 * p1.toInt + 8 * p2.toInt + p3.toInt - 1) ∧ zm2 = upd zm mdn.toInt.toNat m) ∧ rm = mtk2))) ∧ (0 ≤ mho2.toInt ∧ mho2.toInt ≤ 4) ∧ (mho.toInt = 0 ↔ mho2.toInt = 0) ∧ (mdn2.toInt + mun2.toInt ≤ mdn.toInt + mun.toInt + 1) ∧ (¬ mho2.toInt = 0 → (kt_PI ln wd mpc msd2 mki mdn2 mun2 lt lh zg zk za2 zo2 zm2 zt2 PN ∧ kt_PD ln wd msd2 mki mdn2 mun2 lt lh mho2 mtk2 lg lr lc zg zk zm2 zt2 zn2 PN) ∧ (∀ j : Nat, j < 41 → zt2 j = zt j))) : ¬ mho2.toInt = 0 → kt_GS PN zg zk (fun k => kt_S (kt_stepf PN wd.toInt ln.toInt zg zk lt lh) (kt_cut PN zt2) zm2 k) (mdn2.toInt + mun2.toInt) := by
  obtain ⟨⟨v, wm, om⟩, q1, q2, q3, q4⟩ := HM
  intro h2
  have h1 : ¬ mho.toInt = 0 := fun h => h2 (q2.mp h)
  have hg := hgG h1
  obtain ⟨⟨⟨y1, y1'⟩, y2, y3, y4, y5⟩, ⟨f1, f2, f3⟩, g1, g2, g3, g4⟩ := hpi h1
  obtain ⟨-, k41⟩ := q4 h2
  have e0 : kt_cut PN zt2 = kt_cut PN zt := kt_cut_eq (fun j hj => k41 j (by omega))
  rw [e0]
  rcases om with ⟨-, -, -, b2, b3, b4⟩ | ⟨b1, -, b3, b4, b5, ⟨m, b6, b7⟩, -⟩
  · rw [b2, b3, b4]
    exact hg
  · obtain ⟨-, w2, w3, -, w5, w6, -⟩ := wm.z b1
    have hS : za p1.toInt.toNat = (kt_S (kt_stepf PN wd.toInt ln.toInt zg zk lt lh) (kt_cut PN zt) zm mdn.toInt.toNat) p1.toInt.toNat := by rw [← g3, kt_cut_in (by omega)]
    have hz := f1 p1.toInt.toNat (by omega)
    have hz2 : ¬ (za p1.toInt.toNat).toInt = -1 := fun h => w3 ((kt_eq _ _).mpr (h.trans kt_cm1.symm))
    rw [hS] at w6 hz hz2
    have h9 := hg.go (d := mdn.toInt.toNat) (p := p1.toInt) (a := p2.toInt) (n := p3.toInt) (by omega) hwd hln b6 b5.1 b5.2.1 b5.2.2 b7 (by omega) w6
    rw [show mdn2.toInt + mun2.toInt = ((mdn.toInt.toNat : Nat) : Int) + 1 by omega]
    exact h9

theorem kt_beginG {ln wd lh lt mpc2 msd2 mki2 mdn2 mun2 : Int32} {fg zm za2 zo2 zt2 zk2 zg2 : Nat → Int32} (hln : 2 ≤ ln.toInt ∧ ln.toInt ≤ 9) (hwd : 2 ≤ wd.toInt ∧ wd.toInt ≤ 9) (hBG : kt_BG fg (kt_sz ln wd) za2 zk2 zo2 mki2) (hGR : ∀ j, j < 81 → zg2 j = kt_grd (kt_bs fg (kt_sz ln wd) j)) (hpi : kt_PI ln wd mpc2 msd2 mki2 mdn2 mun2 lt lh zg2 zk2 za2 zo2 zm zt2 (kt_ct kt_iP fg (kt_sz ln wd))) (h0 : mdn2 = 0 ∧ mun2 = 0) : kt_GS (kt_ct kt_iP fg (kt_sz ln wd)) zg2 zk2 (fun k => kt_S (kt_stepf (kt_ct kt_iP fg (kt_sz ln wd)) wd.toInt ln.toInt zg2 zk2 lt lh) (kt_cut (kt_ct kt_iP fg (kt_sz ln wd)) zt2) zm k) (mdn2.toInt + mun2.toInt) := by
  obtain ⟨⟨⟨y1, y1'⟩, y2, y3, y4, y5⟩, ⟨c1, c2, c3⟩, g1, g2, g3, g4⟩ := hpi
  have hsz := kt_mulb hln hwd
  have hN : kt_sz ln wd ≤ 81 := by
    unfold kt_sz
    omega
  intro k hk p hp
  rw [h0.1, h0.2, kt_c0] at hk
  have hk0 : k = 0 := by omega
  have e0 : kt_cut (kt_ct kt_iP fg (kt_sz ln wd)) za2 = kt_cut (kt_ct kt_iP fg (kt_sz ln wd)) zt2 := by
    rw [g3, h0.1]
    rfl
  rw [hk0]
  show ¬ kt_cut (kt_ct kt_iP fg (kt_sz ln wd)) zt2 p = -1 → zg2 (kt_cut (kt_ct kt_iP fg (kt_sz ln wd)) zt2 p).toInt.toNat = 0 ∨ zk2 p = 2
  rw [← e0, kt_cut_in hp]
  intro hne
  obtain ⟨j, j1, j2, j3⟩ := kt_ct_hit hp
  obtain ⟨a1, a2, -⟩ := (hBG j j1).1 j2
  rw [j3] at a1 a2
  rw [a1, kt_nI (by omega), Int.toNat_natCast, hGR j (by omega), a2]
  unfold kt_bs
  rw [if_pos j1]
  exact kt_iP_grd j2

theorem kt_ev_good {B P kg s : Nat} {w L re : Int} {fr fk : Nat → Int32} {lg : Int32} (h : kt_gdp (L * w) fr fk (fun p => ((kt_dg B (s / 2) p : Nat) : Int)) P) : kt_ev B P w L fr fk re lg kg s ≤ 3 := by
  unfold kt_ev
  rw [if_pos h]
  rcases kt_wn_r (K := kt_po B P (s / 2) kg = -1) (G := kt_goR lg w L (fr (kt_po B P (s / 2) kg).toInt.toNat) (kt_po B P (s / 2) kg).toInt) (C := kt_can P (kt_who (kt_po B P (s / 2)) P) fr fk (kt_po B P (s / 2)) re w L ((s % 2 : Nat) : Int)) (s := ((s % 2 : Nat) : Int)) (by omega) with h1 | h1
  · omega
  · omega

theorem kt_bestL {ln wd lg lh lr lc lt st dn kn tu kg mho mpc msd mki mdn mun mtk msv rx rm sv pp : Int32} {ff fh m0 m1 m2 m3 m4 m5 zk za zo zg zm zt zn fp wo de ta ga zw zd : Nat → Int32} {PN : Nat} (hln : 2 ≤ ln.toInt ∧ ln.toInt ≤ 9) (hwd : 2 ≤ wd.toInt ∧ wd.toInt ≤ 9) (hlc : 0 ≤ lc.toInt ∧ lc.toInt ≤ 1) (hss : st.toInt = 0 ↔ mho.toInt = 0) (hse : ¬ st.toInt = 0 → st = mho ∧ dn = mdn ∧ tu = msd ∧ kg = mki ∧ kn.toInt = mdn.toInt + mun.toInt) (hci : ¬ st.toInt = 0 → kt_CI wd.toInt ln.toInt PN zg zk lt lh (kt_cut PN zt) zm (zt 40).toInt dn kn tu ff fh m0 m1 m2 m3 m4 m5) (hpi : ¬ mho.toInt = 0 → kt_PI ln wd mpc msd mki mdn mun lt lh zg zk za zo zm zt PN) (hpd : ¬ mho.toInt = 0 → kt_PD ln wd msd mki mdn mun lt lh mho mtk lg lr lc zg zk zm zt zn PN) (hgG : ¬ mho.toInt = 0 → kt_GS PN zg zk (fun k => kt_S (kt_stepf PN wd.toInt ln.toInt zg zk lt lh) (kt_cut PN zt) zm k) (mdn.toInt + mun.toInt)) (hsm : sv.toInt = 0 ↔ msv.toInt = 0) (hsx : ¬ sv.toInt = 0 → ¬ st.toInt = 0) (hsvt : ¬ sv.toInt = 0 → kt_SV ((ln.toInt * wd.toInt).toNat + 1) PN kg.toInt.toNat wd.toInt ln.toInt zg zk lr.toInt lg lt lh pp fp wo de ta ga) (hmvt : ¬ msv.toInt = 0 → ∀ s, s < (2 * ((ln.toInt * wd.toInt).toNat + 1) ^ PN) → kt_sol 4 (kt_ev ((ln.toInt * wd.toInt).toNat + 1) PN wd.toInt ln.toInt zg zk lr.toInt lg mki.toInt.toNat) (kt_ed ((ln.toInt * wd.toInt).toNat + 1) PN wd.toInt ln.toInt zg zk lr.toInt lt lh) (fun s => (zw s).toInt) (fun s => (zd s).toInt) s) (HX : (sv.toInt = 0 → rx.toInt = -1) ∧ (¬ sv.toInt = 0 → ((¬ (wo (2 * kt_pn ((ln.toInt * wd.toInt).toNat + 1 : Nat) ff PN + tu.toInt.toNat)).toInt = 2 ∧ (de (2 * kt_pn ((ln.toInt * wd.toInt).toNat + 1 : Nat) ff PN + tu.toInt.toNat)).toInt = 0) ∧ rx.toInt = -1) ∨ (¬ (¬ (wo (2 * kt_pn ((ln.toInt * wd.toInt).toNat + 1 : Nat) ff PN + tu.toInt.toNat)).toInt = 2 ∧ (de (2 * kt_pn ((ln.toInt * wd.toInt).toNat + 1 : Nat) ff PN + tu.toInt.toNat)).toInt = 0) ∧ rx.toInt = (kt_bst (fun y => kt_dk (kt_mvs PN wd.toInt ln.toInt zg zk lr.toInt (kt_po ((ln.toInt * wd.toInt).toNat + 1 : Nat) PN (kt_pn ((ln.toInt * wd.toInt).toNat + 1 : Nat) ff PN)) tu.toInt) (kt_suc ((ln.toInt * wd.toInt).toNat + 1 : Nat) PN wd.toInt ln.toInt zg zk lt lh (kt_po ((ln.toInt * wd.toInt).toNat + 1 : Nat) PN (kt_pn ((ln.toInt * wd.toInt).toNat + 1 : Nat) ff PN)) tu.toInt.toNat) (fun s => (wo s).toInt) (fun s => (de s).toInt) (2 * kt_pn ((ln.toInt * wd.toInt).toNat + 1 : Nat) ff PN + tu.toInt.toNat) y) ((wo (2 * kt_pn ((ln.toInt * wd.toInt).toNat + 1 : Nat) ff PN + tu.toInt.toNat)).toInt = tu.toInt) (¬ (wo (2 * kt_pn ((ln.toInt * wd.toInt).toNat + 1 : Nat) ff PN + tu.toInt.toNat)).toInt = tu.toInt) (32 * PN)).1))) (HM : (msv.toInt = 0 → rm.toInt = -1) ∧ (¬ msv.toInt = 0 → ((¬ (kt_ev ((ln.toInt * wd.toInt).toNat + 1) PN wd.toInt ln.toInt zg zk lr.toInt lg mki.toInt.toNat) (2 * kt_pn ((ln.toInt * wd.toInt).toNat + 1) za PN + msd.toInt.toNat) = 3 ∧ rm.toInt = -1) ∨ ((kt_ev ((ln.toInt * wd.toInt).toNat + 1) PN wd.toInt ln.toInt zg zk lr.toInt lg mki.toInt.toNat) (2 * kt_pn ((ln.toInt * wd.toInt).toNat + 1) za PN + msd.toInt.toNat) = 3 ∧ rm.toInt = (kt_bst (fun y => kt_dk (kt_mvs PN wd.toInt ln.toInt zg zk lr.toInt (kt_po ((ln.toInt * wd.toInt).toNat + 1) PN (kt_pn ((ln.toInt * wd.toInt).toNat + 1) za PN)) msd.toInt) (kt_suc ((ln.toInt * wd.toInt).toNat + 1) PN wd.toInt ln.toInt zg zk lt lh (kt_po ((ln.toInt * wd.toInt).toNat + 1) PN (kt_pn ((ln.toInt * wd.toInt).toNat + 1) za PN)) msd.toInt.toNat) (fun s => (zw s).toInt) (fun s => (zd s).toInt) (2 * kt_pn ((ln.toInt * wd.toInt).toNat + 1) za PN + msd.toInt.toNat) y) ((zw (2 * kt_pn ((ln.toInt * wd.toInt).toNat + 1) za PN + msd.toInt.toNat)).toInt = msd.toInt) ((zw (2 * kt_pn ((ln.toInt * wd.toInt).toNat + 1) za PN + msd.toInt.toNat)).toInt = 1 - msd.toInt) (32 * PN)).1)))) : rx = rm := by
  have hsz := kt_mulb hln hwd
  have hBl : ((((ln.toInt * wd.toInt).toNat + 1) : Nat) : Int) = ln.toInt * wd.toInt + 1 := by omega
  by_cases h0 : sv.toInt = 0
  · exact (kt_eq _ _).mpr ((HX.1 h0).trans (HM.1 (hsm.mp h0)).symm)
  · have hx := HX.2 h0
    have hm := HM.2 (fun h => h0 (hsm.mpr h))
    have e : ¬ st.toInt = 0 := hsx h0
    have e' : ¬ mho.toInt = 0 := fun h => e (hss.mpr h)
    obtain ⟨d1, d2, d3, d4, d5⟩ := hse e
    have hci0 := hci e
    have hpi0 := hpi e'
    have hg := hgG e'
    obtain ⟨⟨i1, i2, i3⟩, i4, i5, ⟨i6, i7, i8⟩, i9⟩ := hci0
    obtain ⟨⟨⟨y1, y1'⟩, y2, y3, y4, y5⟩, ⟨f1, f2, f3⟩, g1, g2, g3, g4⟩ := hpi0
    have hfz : ∀ q, q < PN → ff q = za q := fun q hq => by
      have h5 := congrFun (show kt_cut PN ff = kt_cut PN za by rw [i5, d2]; exact g3.symm) q
      rw [kt_cut_in hq, kt_cut_in hq] at h5
      exact h5
    have hfv : ∀ j, j < PN → za j = -1 ∨ (0 ≤ (za j).toInt ∧ (za j).toInt < ((((ln.toInt * wd.toInt).toNat + 1) : Nat) : Int) - 1) := fun j hj => by
      have h5 := f1 j hj
      by_cases c : za j = -1
      · exact Or.inl c
      · have h6 : ¬ (za j).toInt = -1 := fun h7 => c ((kt_eq _ _).mpr (h7.trans kt_cm1.symm))
        exact Or.inr (by omega)
    have hpn : kt_pn ((ln.toInt * wd.toInt).toNat + 1) ff PN = kt_pn ((ln.toInt * wd.toInt).toNat + 1) za PN := kt_pn_cong hfz
    have hlt : kt_pn ((ln.toInt * wd.toInt).toNat + 1) za PN < ((ln.toInt * wd.toInt).toNat + 1) ^ PN := kt_pn_v (by omega) hfv
    have hinj : kt_inj za PN := by
      have h5 := kt_coc.inj y1' f3
      intro i j f hi hj hf a b
      exact h5 i j f hi hj hf (by rw [kt_cut_in hi]; exact a) (by rw [kt_cut_in hj]; exact b)
    have hgood : ∀ p, p < PN → ¬ za p = -1 → zg (za p).toInt.toNat = 0 ∨ zk p = 2 := fun p hp => by
      have h5 := hg mdn.toInt.toNat (by omega) p hp
      have h6 : (kt_S (kt_stepf PN wd.toInt ln.toInt zg zk lt lh) (kt_cut PN zt) zm mdn.toInt.toNat) p = za p := by rw [← g3, kt_cut_in hp]
      have h7 : ¬ (kt_S (kt_stepf PN wd.toInt ln.toInt zg zk lt lh) (kt_cut PN zt) zm mdn.toInt.toNat) p = -1 → zg ((kt_S (kt_stepf PN wd.toInt ln.toInt zg zk lt lh) (kt_cut PN zt) zm mdn.toInt.toNat) p).toInt.toNat = 0 ∨ zk p = 2 := h5
      rw [h6] at h7
      exact h7
    have hgd := kt_GS.gdp (fr := zg) (fk := zk) hBl hsz hfv hinj hgood
    have htu : 0 ≤ tu.toInt ∧ tu.toInt ≤ 1 := by rw [d3]; exact y3
    have hNT : 2 * kt_pn ((ln.toInt * wd.toInt).toNat + 1) ff PN + tu.toInt.toNat < (2 * ((ln.toInt * wd.toInt).toNat + 1) ^ PN) := by omega
    have hE4 : ¬ (kt_ev ((ln.toInt * wd.toInt).toNat + 1) PN wd.toInt ln.toInt zg zk lr.toInt lg mki.toInt.toNat) (2 * kt_pn ((ln.toInt * wd.toInt).toNat + 1) ff PN + tu.toInt.toNat) = 4 := by
      have h5 := kt_ev_good (B := ((ln.toInt * wd.toInt).toNat + 1)) (P := PN) (s := 2 * kt_pn ((ln.toInt * wd.toInt).toNat + 1) ff PN + tu.toInt.toNat) (w := wd.toInt) (L := ln.toInt) (re := lr.toInt) (lg := lg) (kg := mki.toInt.toNat) (fr := zg) (fk := zk) (by rw [show (2 * kt_pn ((ln.toInt * wd.toInt).toNat + 1) ff PN + tu.toInt.toNat) / 2 = kt_pn ((ln.toInt * wd.toInt).toNat + 1) za PN by omega]; exact hgd)
      omega
    have hT : ∀ s, s < (2 * ((ln.toInt * wd.toInt).toNat + 1) ^ PN) → (kt_ev ((ln.toInt * wd.toInt).toNat + 1) PN wd.toInt ln.toInt zg zk lr.toInt lg mki.toInt.toNat) s = 3 → ∀ u, (kt_ed ((ln.toInt * wd.toInt).toNat + 1) PN wd.toInt ln.toInt zg zk lr.toInt lt lh) s u → u < (2 * ((ln.toInt * wd.toInt).toNat + 1) ^ PN) := fun s _ _ u hu => kt_ed_lt hwd hln hBl hu
    have hsv1 := hsvt h0
    rw [d4] at hsv1
    obtain ⟨v1, v2, v3, v4, v5⟩ := hsv1
    have hm1 := hmvt (fun h => h0 (hsm.mpr h))
    have htab := kt_tabs hT v4 hm1
    rw [← hpn, ← d3] at hm
    have hd := kt_tab_d (v4 (2 * kt_pn ((ln.toInt * wd.toInt).toNat + 1) ff PN + tu.toInt.toNat) hNT) hE4
    rcases hx with ⟨a1, a2⟩ | ⟨a1, a2⟩ <;> rcases hm with ⟨b1, b2⟩ | ⟨b1, b2⟩
    · exact (kt_eq _ _).mpr (a2.trans b2.symm)
    · exact absurd b1 (hd.mp a1)
    · exact absurd (hd.mpr b1) a1
    · refine (kt_eq _ _).mpr (a2.trans (Eq.trans ?_ b2.symm))
      have hbe := kt_bestEq (mv := kt_mvs PN wd.toInt ln.toInt zg zk lr.toInt (kt_po ((ln.toInt * wd.toInt).toNat + 1) PN (kt_pn ((ln.toInt * wd.toInt).toNat + 1) ff PN)) tu.toInt) (suc := kt_suc ((ln.toInt * wd.toInt).toNat + 1) PN wd.toInt ln.toInt zg zk lt lh (kt_po ((ln.toInt * wd.toInt).toNat + 1) PN (kt_pn ((ln.toInt * wd.toInt).toNat + 1) ff PN)) tu.toInt.toNat) (N := (2 * kt_pn ((ln.toInt * wd.toInt).toNat + 1) ff PN + tu.toInt.toNat)) (o := tu.toInt) (n := 32 * PN) htu hT v4 hm1 hNT hE4 (fun y hy => by
        refine kt_ed_lt (re := lr.toInt) (fr := zg) (fk := zk) (lt := lt) (lh := lh) hwd hln hBl (s := (2 * kt_pn ((ln.toInt * wd.toInt).toNat + 1) ff PN + tu.toInt.toNat)) ⟨y, ?_, ?_⟩
        · rw [show (2 * kt_pn ((ln.toInt * wd.toInt).toNat + 1) ff PN + tu.toInt.toNat) / 2 = kt_pn ((ln.toInt * wd.toInt).toNat + 1) ff PN by omega, show (((2 * kt_pn ((ln.toInt * wd.toInt).toNat + 1) ff PN + tu.toInt.toNat) % 2 : Nat) : Int) = tu.toInt by omega]
          exact hy
        · rw [show (2 * kt_pn ((ln.toInt * wd.toInt).toNat + 1) ff PN + tu.toInt.toNat) / 2 = kt_pn ((ln.toInt * wd.toInt).toNat + 1) ff PN by omega, show (2 * kt_pn ((ln.toInt * wd.toInt).toNat + 1) ff PN + tu.toInt.toNat) % 2 = tu.toInt.toNat by omega])
      exact congrArg Prod.fst hbe
