theorem kt_goL {ln wd lg lh lr lc lt st dn kn tu kg mho mpc msd mki mdn mun mtk rx rm st2 dn2 kn2 tu2 mho2 mtk2 msd2 mdn2 mun2 p1 p2 p3 m_ : Int32} {ff fh m0 m1 m2 m3 m4 m5 zk za zo zg zm zt zn ff2 fh2 w0 w1 w2 w3 w4 w5 za2 zo2 zn2 zt2 zm2 : Nat → Int32} {PN : Nat} (hln : 2 ≤ ln.toInt ∧ ln.toInt ≤ 9) (hwd : 2 ≤ wd.toInt ∧ wd.toInt ≤ 9) (hlc : 0 ≤ lc.toInt ∧ lc.toInt ≤ 1) (hss : st.toInt = 0 ↔ mho.toInt = 0) (hse : ¬ st.toInt = 0 → st = mho ∧ dn = mdn ∧ tu = msd ∧ kg = mki ∧ kn.toInt = mdn.toInt + mun.toInt) (hci : ¬ st.toInt = 0 → kt_CI wd.toInt ln.toInt PN zg zk lt lh (kt_cut PN zt) zm (zt 40).toInt dn kn tu ff fh m0 m1 m2 m3 m4 m5) (hpi : ¬ mho.toInt = 0 → kt_PI ln wd mpc msd mki mdn mun lt lh zg zk za zo zm zt PN) (hpd : ¬ mho.toInt = 0 → kt_PD ln wd msd mki mdn mun lt lh mho mtk lg lr lc zg zk zm zt zn PN) (hm_ : m_ = nI (32 * p1.toInt + 8 * p2.toInt + p3.toInt - 1).toNat) (HX : (∃ v : Int, kt_WYR st.toInt p1.toInt p2.toInt p3.toInt PN ff zk fh zg lr.toInt wd.toInt ln.toInt tu.toInt (lc = 1 ∧ ∃ k : Nat, k < dn.toInt.toNat + 1 ∧ (kt_S (kt_stepf PN wd.toInt ln.toInt zg zk lt lh) (kt_cut PN zt) zm k) = (kt_mk PN wd.toInt ln.toInt zg zk lt lh (kt_S (kt_stepf PN wd.toInt ln.toInt zg zk lt lh) (kt_cut PN zt) zm dn.toInt.toNat) p1.toInt.toNat p2.toInt p3.toInt) ∧ kt_sdk ((zt 40).toInt) k = kt_sdk ((zt 40).toInt) (dn.toInt.toNat + 1)) v ∧ ((¬ v = 0 ∧ rx.toInt = -1 ∧ (st2 = st ∧ dn2 = dn ∧ kn2 = kn ∧ tu2 = tu ∧ ff2 = ff ∧ fh2 = fh ∧ w0 = m0 ∧ w1 = m1 ∧ w2 = m2 ∧ w3 = m3 ∧ w4 = m4 ∧ w5 = m5)) ∨ (v = 0 ∧ kt_CI wd.toInt ln.toInt PN zg zk lt lh (kt_cut PN zt) (upd zm dn.toInt.toNat m_) ((zt 40).toInt) dn2 kn2 tu2 ff2 fh2 w0 w1 w2 w3 w4 w5 ∧ (dn2.toInt = dn.toInt + 1 ∧ kn2.toInt = dn.toInt + 1) ∧ kt_hows PN wd.toInt ln.toInt zg zk lr.toInt lg kg.toNatClampNeg (kt_S (kt_stepf PN wd.toInt ln.toInt zg zk lt lh) (kt_cut PN zt) (upd zm dn.toInt.toNat m_) (dn.toInt.toNat + 1)) (kt_sdk ((zt 40).toInt) (dn.toInt.toNat + 1)) (lc = 0 ∧ ∃ k : Nat, k < (dn.toInt.toNat + 1) ∧ (kt_S (kt_stepf PN wd.toInt ln.toInt zg zk lt lh) (kt_cut PN zt) (upd zm dn.toInt.toNat m_) k) = (kt_S (kt_stepf PN wd.toInt ln.toInt zg zk lt lh) (kt_cut PN zt) (upd zm dn.toInt.toNat m_) (dn.toInt.toNat + 1)) ∧ kt_sdk ((zt 40).toInt) k = kt_sdk ((zt 40).toInt) (dn.toInt.toNat + 1)) st2.toInt ∧ rx.toInt = (kt_tn (kt_S (kt_stepf PN wd.toInt ln.toInt zg zk lt lh) (kt_cut PN zt) zm dn.toInt.toNat) (kt_stepf PN wd.toInt ln.toInt zg zk lt lh (kt_S (kt_stepf PN wd.toInt ln.toInt zg zk lt lh) (kt_cut PN zt) zm dn.toInt.toNat) m_) PN : Int))))) (HM : (∃ v : Int, kt_WYR mho.toInt p1.toInt p2.toInt p3.toInt PN za zk zo zg lr.toInt wd.toInt ln.toInt msd.toInt (¬ lc = 0 ∧ ∃ k : Nat, k < mdn.toInt.toNat + 1 ∧ (kt_S (kt_stepf PN wd.toInt ln.toInt zg zk lt lh) (kt_cut PN zt) zm k) = (kt_mk PN wd.toInt ln.toInt zg zk lt lh (kt_S (kt_stepf PN wd.toInt ln.toInt zg zk lt lh) (kt_cut PN zt) zm mdn.toInt.toNat) p1.toInt.toNat p2.toInt p3.toInt) ∧ kt_sdk (zt 40).toInt k = kt_sdk (zt 40).toInt (mdn.toInt.toNat + 1)) v ∧ ((¬ v = 0 ∧ rm.toInt = -1 ∧ mho2 = mho ∧ mdn2 = mdn ∧ mun2 = mun ∧ zm2 = zm) ∨ (v = 0 ∧ mho.toInt = 1 ∧ mdn2.toInt = mdn.toInt + 1 ∧ mun2.toInt = 0 ∧ ((0 ≤ p1.toInt ∧ p1.toInt < (PN : Int)) ∧ (0 ≤ p2.toInt ∧ p2.toInt ≤ 3) ∧ (1 ≤ p3.toInt ∧ p3.toInt ≤ 8)) ∧ (∃ m : Int32, m.toInt = (32 * p1.toInt + 8 * p2.toInt + p3.toInt - 1) ∧ zm2 = upd zm mdn.toInt.toNat m) ∧ rm = mtk2))) ∧ (0 ≤ mho2.toInt ∧ mho2.toInt ≤ 4) ∧ (mho.toInt = 0 ↔ mho2.toInt = 0) ∧ (mdn2.toInt + mun2.toInt ≤ mdn.toInt + mun.toInt + 1) ∧ (¬ mho2.toInt = 0 → (kt_PI ln wd mpc msd2 mki mdn2 mun2 lt lh zg zk za2 zo2 zm2 zt2 PN ∧ kt_PD ln wd msd2 mki mdn2 mun2 lt lh mho2 mtk2 lg lr lc zg zk zm2 zt2 zn2 PN) ∧ (∀ j : Nat, j < 41 → zt2 j = zt j))) : rx = rm ∧ (¬ st2.toInt = 0 → kt_CI wd.toInt ln.toInt PN zg zk lt lh (kt_cut PN zt2) zm2 (zt2 40).toInt dn2 kn2 tu2 ff2 fh2 w0 w1 w2 w3 w4 w5) ∧ (¬ st2.toInt = 0 → st2 = mho2 ∧ dn2 = mdn2 ∧ tu2 = msd2 ∧ kg = mki ∧ kn2.toInt = mdn2.toInt + mun2.toInt) ∧ (st2.toInt = 0 ↔ st.toInt = 0) ∧ (st2.toInt = 0 → dn2 = dn ∧ kn2 = kn ∧ fh2 = fh) := by
  obtain ⟨v, wx, ox⟩ := HX
  obtain ⟨⟨v', wm, om⟩, q1, q2, q3, q4⟩ := HM
  by_cases e : st.toInt = 0
  · have e' := hss.mp e
    have v1 := wx.off (by omega)
    have v2 := wm.off (by omega)
    rcases ox with ⟨a1, a2, a3⟩ | ⟨a1, -⟩
    · rcases om with ⟨b1, b2, b3⟩ | ⟨b1, -⟩
      · obtain ⟨c1, c2, c3, c4, c5, c6, -⟩ := a3
        exact ⟨(kt_eq _ _).mpr (a2.trans b2.symm), fun h => by rw [c1] at h; exact absurd e h, fun h => by rw [c1] at h; exact absurd e h, by rw [c1], fun _ => ⟨c2, c3, c6⟩⟩
      · omega
    · omega
  · have e' : ¬ mho.toInt = 0 := fun h => e (hss.mpr h)
    obtain ⟨d1, d2, d3, d4, d5⟩ := hse e
    have ci := hci e
    have pi := hpi e'
    have pd := hpd e'
    subst d1
    subst d2
    subst d3
    subst d4
    have hci0 := ci
    have hpi0 := pi
    obtain ⟨⟨i1, i2, i3⟩, i4, i5, ⟨i6, i7, i8⟩, i9⟩ := ci
    obtain ⟨⟨⟨y1, y1'⟩, y2, y3, y4, y5⟩, ⟨f1, f2, f3⟩, g1, g2, g3, g4⟩ := pi
    have hfS : ∀ q, q < PN → ff q = (kt_S (kt_stepf PN wd.toInt ln.toInt zg zk lt lh) (kt_cut PN zt) zm dn.toInt.toNat) q := fun q hq => by rw [← i5, kt_cut_in hq]
    have hzS : ∀ q, q < PN → za q = (kt_S (kt_stepf PN wd.toInt ln.toInt zg zk lt lh) (kt_cut PN zt) zm dn.toInt.toNat) q := fun q hq => by rw [← g3, kt_cut_in hq]
    have hl1 : ¬ lc = 0 → lc = 1 := fun h => (kt_eq _ _).mpr (by rw [kt_c1]; have h2 : ¬ lc.toInt = 0 := fun h3 => h ((kt_eq _ _).mpr (h3.trans kt_c0.symm)); omega)
    have wx' := wx.conv (A' := (kt_S (kt_stepf PN wd.toInt ln.toInt zg zk lt lh) (kt_cut PN zt) zm dn.toInt.toNat)) (fo' := kt_who (kt_S (kt_stepf PN wd.toInt ln.toInt zg zk lt lh) (kt_cut PN zt) zm dn.toInt.toNat) PN) (BK' := (¬ lc = 0 ∧ ∃ k : Nat, k < dn.toInt.toNat + 1 ∧ (kt_S (kt_stepf PN wd.toInt ln.toInt zg zk lt lh) (kt_cut PN zt) zm k) = (kt_mk PN wd.toInt ln.toInt zg zk lt lh (kt_S (kt_stepf PN wd.toInt ln.toInt zg zk lt lh) (kt_cut PN zt) zm dn.toInt.toNat) p1.toInt.toNat p2.toInt p3.toInt) ∧ kt_sdk (zt 40).toInt k = kt_sdk (zt 40).toInt (dn.toInt.toNat + 1))) hwd hln i4.1 hfS (fun f hf => (kt_who_of i4.2.1 i4.2.2.1 y1' hf).trans (kt_who_cong hfS)) ⟨fun h => ⟨by rw [h.1]; decide, h.2⟩, fun h => ⟨hl1 h.1, h.2⟩⟩
    have wm' := wm.conv (A' := (kt_S (kt_stepf PN wd.toInt ln.toInt zg zk lt lh) (kt_cut PN zt) zm dn.toInt.toNat)) (fo' := kt_who (kt_S (kt_stepf PN wd.toInt ln.toInt zg zk lt lh) (kt_cut PN zt) zm dn.toInt.toNat) PN) (BK' := (¬ lc = 0 ∧ ∃ k : Nat, k < dn.toInt.toNat + 1 ∧ (kt_S (kt_stepf PN wd.toInt ln.toInt zg zk lt lh) (kt_cut PN zt) zm k) = (kt_mk PN wd.toInt ln.toInt zg zk lt lh (kt_S (kt_stepf PN wd.toInt ln.toInt zg zk lt lh) (kt_cut PN zt) zm dn.toInt.toNat) p1.toInt.toNat p2.toInt p3.toInt) ∧ kt_sdk (zt 40).toInt k = kt_sdk (zt 40).toInt (dn.toInt.toNat + 1))) hwd hln f1 hzS (fun f hf => (kt_who_of f2 f3 y1' hf).trans (kt_who_cong hzS)) Iff.rfl
    have hv := wx'.uniq wm'
    rcases ox with ⟨a1, a2, a3⟩ | ⟨a1, a2, ⟨a3, a4⟩, a5, a6⟩ <;> rcases om with ⟨b1, b2, b3⟩ | ⟨b1, b2, b3, b4, b5, ⟨m, b6, b7⟩, b8⟩
    · obtain ⟨c1, c2, c3, c4, c5, c6, c7, c8, c9, c10, c11, c12⟩ := a3
      obtain ⟨n1, n2, n3, n4⟩ := b3
      obtain ⟨⟨pi2, pd2⟩, k41⟩ := q4 (by rw [n1]; exact e)
      have e0 : kt_cut PN zt2 = kt_cut PN zt := kt_cut_eq (fun j hj => k41 j (by omega))
      have e40 : zt2 40 = zt 40 := k41 40 (by omega)
      have hms : msd2 = tu := (kt_eq _ _).mpr (by rw [pd2.2.1.1, e40, n2, i3])
      exact ⟨(kt_eq _ _).mpr (a2.trans b2.symm), fun _ => by rw [e0, e40, n4, c2, c3, c4, c5, c6, c7, c8, c9, c10, c11, c12]; exact hci0, fun _ => ⟨by rw [c1, n1], by rw [c2, n2], by rw [c4, hms], rfl, by rw [c3, n2, n3]; exact d5⟩, by rw [c1], fun h => by rw [c1] at h; exact absurd h e⟩
    · omega
    · omega
    · obtain ⟨⟨pi2, pd2⟩, k41⟩ := q4 (fun h => e (q2.mpr h))
      have e0 : kt_cut PN zt2 = kt_cut PN zt := kt_cut_eq (fun j hj => k41 j (by omega))
      have e40 : zt2 40 = zt 40 := k41 40 (by omega)
      have hmG : m = m_ := (kt_eq _ _).mpr (by rw [b6, hm_, kt_nI (by omega)]; omega)
      have hz2 : zm2 = upd zm dn.toInt.toNat m_ := by rw [b7, hmG]
      have hmd : mdn2.toInt.toNat = dn.toInt.toNat + 1 := by omega
      have h5 := pd2.2.2.2.1
      rw [e0, e40, hz2, hmd] at h5
      have hst : st2 = mho2 := (kt_eq _ _).mpr (kt_hows.uniq a5 h5)
      have hdn : dn2 = mdn2 := (kt_eq _ _).mpr (by omega)
      have h6 := (pd2.2.2.2.2.2.2 (by omega)).1
      rw [e0, hz2, hmd, Nat.add_sub_cancel, kt_S_upd.1 _ (Nat.le_refl _), kt_S_upd.2] at h6
      have h7 := kt_tn_le (kt_S (kt_stepf PN wd.toInt ln.toInt zg zk lt lh) (kt_cut PN zt) zm dn.toInt.toNat) (kt_stepf PN wd.toInt ln.toInt zg zk lt lh (kt_S (kt_stepf PN wd.toInt ln.toInt zg zk lt lh) (kt_cut PN zt) zm dn.toInt.toNat) m_) PN
      refine ⟨(kt_eq _ _).mpr (by rw [a6, b8, h6, kt_nI (by omega)]), fun _ => by rw [e0, e40, hz2]; exact a2, fun _ => ⟨hst, hdn, (kt_eq _ _).mpr (by rw [a2.1.2.2, pd2.2.1.1, e40, hdn]), rfl, by omega⟩, ⟨fun h => ?_, fun h => absurd h e⟩, fun h => ?_⟩
      · rw [hst] at h; exact q2.mpr h
      · rw [hst] at h; exact absurd (q2.mpr h) e

theorem kt_whyL {ln wd lg lh lr lc lt st dn kn tu kg mho mpc msd mki mdn mun mtk rx rm mtk2 msd2 p1 p2 p3 : Int32} {ff fh m0 m1 m2 m3 m4 m5 zk za zo zg zm zt zn za2 zo2 zn2 zt2 : Nat → Int32} {PN : Nat} (hln : 2 ≤ ln.toInt ∧ ln.toInt ≤ 9) (hwd : 2 ≤ wd.toInt ∧ wd.toInt ≤ 9) (hlc : 0 ≤ lc.toInt ∧ lc.toInt ≤ 1) (hss : st.toInt = 0 ↔ mho.toInt = 0) (hse : ¬ st.toInt = 0 → st = mho ∧ dn = mdn ∧ tu = msd ∧ kg = mki ∧ kn.toInt = mdn.toInt + mun.toInt) (hci : ¬ st.toInt = 0 → kt_CI wd.toInt ln.toInt PN zg zk lt lh (kt_cut PN zt) zm (zt 40).toInt dn kn tu ff fh m0 m1 m2 m3 m4 m5) (hpi : ¬ mho.toInt = 0 → kt_PI ln wd mpc msd mki mdn mun lt lh zg zk za zo zm zt PN) (hpd : ¬ mho.toInt = 0 → kt_PD ln wd msd mki mdn mun lt lh mho mtk lg lr lc zg zk zm zt zn PN) (HX : kt_WYR st.toInt p1.toInt p2.toInt p3.toInt PN ff zk fh zg lr.toInt wd.toInt ln.toInt tu.toInt (lc = 1 ∧ ∃ k : Nat, k < dn.toInt.toNat + 1 ∧ (kt_S (kt_stepf PN wd.toInt ln.toInt zg zk lt lh) (kt_cut PN zt) zm k) = (kt_mk PN wd.toInt ln.toInt zg zk lt lh (kt_S (kt_stepf PN wd.toInt ln.toInt zg zk lt lh) (kt_cut PN zt) zm dn.toInt.toNat) p1.toInt.toNat p2.toInt p3.toInt) ∧ kt_sdk ((zt 40).toInt) k = kt_sdk ((zt 40).toInt) (dn.toInt.toNat + 1)) rx.toInt) (HM : (kt_WYR mho.toInt p1.toInt p2.toInt p3.toInt PN za zk zo zg lr.toInt wd.toInt ln.toInt msd.toInt (¬ lc = 0 ∧ ∃ k : Nat, k < mdn.toInt.toNat + 1 ∧ (kt_S (kt_stepf PN wd.toInt ln.toInt zg zk lt lh) (kt_cut PN zt) zm k) = (kt_mk PN wd.toInt ln.toInt zg zk lt lh (kt_S (kt_stepf PN wd.toInt ln.toInt zg zk lt lh) (kt_cut PN zt) zm mdn.toInt.toNat) p1.toInt.toNat p2.toInt p3.toInt) ∧ kt_sdk (zt 40).toInt k = kt_sdk (zt 40).toInt (mdn.toInt.toNat + 1)) rm.toInt ∧ (rm.toInt = 0 → mho.toInt = 1 ∧ ((0 ≤ p1.toInt ∧ p1.toInt < (PN : Int)) ∧ (0 ≤ p2.toInt ∧ p2.toInt ≤ 3) ∧ (1 ≤ p3.toInt ∧ p3.toInt ≤ 8) ∧ 0 ≤ (za p1.toNatClampNeg).toInt ∧ p3.toInt ≤ kt_rom (za p1.toNatClampNeg).toInt wd.toInt ln.toInt p2.toInt ∧ ∀ q, q < PN → ¬ za q = nI (kt_al (za p1.toNatClampNeg).toInt wd.toInt ln.toInt p2.toInt p3.toInt).toNat) ∧ kt_side (zk p1.toNatClampNeg) = msd.toInt)) ∧ (¬ mho.toInt = 0 → kt_PI ln wd mpc msd2 mki mdn mun lt lh zg zk za2 zo2 zm zt2 PN ∧ kt_cut PN za2 = kt_cut PN za ∧ msd2 = msd ∧ kt_PD ln wd msd2 mki mdn mun lt lh mho mtk2 lg lr lc zg zk zm zt2 zn2 PN ∧ (∀ j : Nat, (j : Int) < 41 * (mdn.toInt + 1) → zt2 j = zt j))) : rx = rm ∧ (¬ st.toInt = 0 → kt_CI wd.toInt ln.toInt PN zg zk lt lh (kt_cut PN zt2) zm (zt2 40).toInt dn kn tu ff fh m0 m1 m2 m3 m4 m5) ∧ (¬ st.toInt = 0 → st = mho ∧ dn = mdn ∧ tu = msd2 ∧ kg = mki ∧ kn.toInt = mdn.toInt + mun.toInt) := by
  have wx := HX
  obtain ⟨⟨wm, -⟩, q4⟩ := HM
  by_cases e : st.toInt = 0
  · have e' := hss.mp e
    exact ⟨(kt_eq _ _).mpr ((wx.off (by omega)).trans (wm.off (by omega)).symm), fun h => absurd e h, fun h => absurd e h⟩
  · have e' : ¬ mho.toInt = 0 := fun h => e (hss.mpr h)
    obtain ⟨d1, d2, d3, d4, d5⟩ := hse e
    have ci := hci e
    have pi := hpi e'
    have pd := hpd e'
    subst d1
    subst d2
    subst d3
    subst d4
    have hci0 := ci
    have hpi0 := pi
    obtain ⟨⟨i1, i2, i3⟩, i4, i5, ⟨i6, i7, i8⟩, i9⟩ := ci
    obtain ⟨⟨⟨y1, y1'⟩, y2, y3, y4, y5⟩, ⟨f1, f2, f3⟩, g1, g2, g3, g4⟩ := pi
    have hfS : ∀ q, q < PN → ff q = (kt_S (kt_stepf PN wd.toInt ln.toInt zg zk lt lh) (kt_cut PN zt) zm dn.toInt.toNat) q := fun q hq => by rw [← i5, kt_cut_in hq]
    have hzS : ∀ q, q < PN → za q = (kt_S (kt_stepf PN wd.toInt ln.toInt zg zk lt lh) (kt_cut PN zt) zm dn.toInt.toNat) q := fun q hq => by rw [← g3, kt_cut_in hq]
    have hl1 : ¬ lc = 0 → lc = 1 := fun h => (kt_eq _ _).mpr (by rw [kt_c1]; have h2 : ¬ lc.toInt = 0 := fun h3 => h ((kt_eq _ _).mpr (h3.trans kt_c0.symm)); omega)
    have wx' := wx.conv (A' := (kt_S (kt_stepf PN wd.toInt ln.toInt zg zk lt lh) (kt_cut PN zt) zm dn.toInt.toNat)) (fo' := kt_who (kt_S (kt_stepf PN wd.toInt ln.toInt zg zk lt lh) (kt_cut PN zt) zm dn.toInt.toNat) PN) (BK' := (¬ lc = 0 ∧ ∃ k : Nat, k < dn.toInt.toNat + 1 ∧ (kt_S (kt_stepf PN wd.toInt ln.toInt zg zk lt lh) (kt_cut PN zt) zm k) = (kt_mk PN wd.toInt ln.toInt zg zk lt lh (kt_S (kt_stepf PN wd.toInt ln.toInt zg zk lt lh) (kt_cut PN zt) zm dn.toInt.toNat) p1.toInt.toNat p2.toInt p3.toInt) ∧ kt_sdk (zt 40).toInt k = kt_sdk (zt 40).toInt (dn.toInt.toNat + 1))) hwd hln i4.1 hfS (fun f hf => (kt_who_of i4.2.1 i4.2.2.1 y1' hf).trans (kt_who_cong hfS)) ⟨fun h => ⟨by rw [h.1]; decide, h.2⟩, fun h => ⟨hl1 h.1, h.2⟩⟩
    have wm' := wm.conv (A' := (kt_S (kt_stepf PN wd.toInt ln.toInt zg zk lt lh) (kt_cut PN zt) zm dn.toInt.toNat)) (fo' := kt_who (kt_S (kt_stepf PN wd.toInt ln.toInt zg zk lt lh) (kt_cut PN zt) zm dn.toInt.toNat) PN) (BK' := (¬ lc = 0 ∧ ∃ k : Nat, k < dn.toInt.toNat + 1 ∧ (kt_S (kt_stepf PN wd.toInt ln.toInt zg zk lt lh) (kt_cut PN zt) zm k) = (kt_mk PN wd.toInt ln.toInt zg zk lt lh (kt_S (kt_stepf PN wd.toInt ln.toInt zg zk lt lh) (kt_cut PN zt) zm dn.toInt.toNat) p1.toInt.toNat p2.toInt p3.toInt) ∧ kt_sdk (zt 40).toInt k = kt_sdk (zt 40).toInt (dn.toInt.toNat + 1))) hwd hln f1 hzS (fun f hf => (kt_who_of f2 f3 y1' hf).trans (kt_who_cong hzS)) Iff.rfl
    have hv := wx'.uniq wm'
    obtain ⟨pi2, -, hms, pd2, keep⟩ := q4 e
    have k41 : ∀ j, j < 41 → zt2 j = zt j := fun j hj => keep j (by omega)
    have e0 : kt_cut PN zt2 = kt_cut PN zt := kt_cut_eq (fun j hj => k41 j (by omega))
    have e40 : zt2 40 = zt 40 := k41 40 (by omega)
    exact ⟨(kt_eq _ _).mpr hv, fun _ => by rw [e0, e40]; exact hci0, fun _ => ⟨rfl, rfl, hms.symm, rfl, d5⟩⟩

theorem kt_backL {ln wd lg lh lr lc lt st dn kn tu kg mho mpc msd mki mdn mun mtk rx rm st2 dn2 kn2 tu2 mho2 mtk2 msd2 mdn2 mun2 : Int32} {ff fh m0 m1 m2 m3 m4 m5 zk za zo zg zm zt zn ff2 fh2 w0 w1 w2 w3 w4 w5 za2 zo2 zn2 : Nat → Int32} {PN : Nat} (hln : 2 ≤ ln.toInt ∧ ln.toInt ≤ 9) (hwd : 2 ≤ wd.toInt ∧ wd.toInt ≤ 9) (hlc : 0 ≤ lc.toInt ∧ lc.toInt ≤ 1) (hss : st.toInt = 0 ↔ mho.toInt = 0) (hse : ¬ st.toInt = 0 → st = mho ∧ dn = mdn ∧ tu = msd ∧ kg = mki ∧ kn.toInt = mdn.toInt + mun.toInt) (hci : ¬ st.toInt = 0 → kt_CI wd.toInt ln.toInt PN zg zk lt lh (kt_cut PN zt) zm (zt 40).toInt dn kn tu ff fh m0 m1 m2 m3 m4 m5) (hpi : ¬ mho.toInt = 0 → kt_PI ln wd mpc msd mki mdn mun lt lh zg zk za zo zm zt PN) (hpd : ¬ mho.toInt = 0 → kt_PD ln wd msd mki mdn mun lt lh mho mtk lg lr lc zg zk zm zt zn PN) (hz0 : st.toInt = 0 → dn.toInt = 0 ∧ kn.toInt = 0) (HX : ((dn.toInt = 0 ∧ rx = 0 ∧ (st2 = st ∧ dn2 = dn ∧ kn2 = kn ∧ tu2 = tu ∧ ff2 = ff ∧ fh2 = fh ∧ w0 = m0 ∧ w1 = m1 ∧ w2 = m2 ∧ w3 = m3 ∧ w4 = m4 ∧ w5 = m5)) ∨ (¬ dn.toInt = 0 ∧ rx = 1 ∧ st2 = 1 ∧ dn2.toInt = dn.toInt - 1 ∧ kn2 = kn ∧ kt_CI wd.toInt ln.toInt PN zg zk lt lh (kt_cut PN zt) zm ((zt 40).toInt) dn2 kn2 tu2 ff2 fh2 w0 w1 w2 w3 w4 w5))) (HM : ((¬ (¬ mho.toInt = 0 ∧ ¬ mdn.toInt = 0) ∧ rm = 0 ∧ mho2 = mho ∧ mdn2 = mdn ∧ mun2 = mun) ∨ ((¬ mho.toInt = 0 ∧ ¬ mdn.toInt = 0) ∧ rm = 1 ∧ mho2 = 1 ∧ mdn2.toInt = mdn.toInt - 1 ∧ mun2.toInt = mun.toInt + 1)) ∧ (0 ≤ mho2.toInt ∧ mho2.toInt ≤ 4) ∧ (mho.toInt = 0 ↔ mho2.toInt = 0) ∧ (mdn2.toInt + mun2.toInt ≤ mdn.toInt + mun.toInt) ∧ (¬ mho2.toInt = 0 → kt_PI ln wd mpc msd2 mki mdn2 mun2 lt lh zg zk za2 zo2 zm zt PN ∧ kt_PD ln wd msd2 mki mdn2 mun2 lt lh mho2 mtk2 lg lr lc zg zk zm zt zn2 PN)) : rx = rm ∧ (¬ st2.toInt = 0 → kt_CI wd.toInt ln.toInt PN zg zk lt lh (kt_cut PN zt) zm (zt 40).toInt dn2 kn2 tu2 ff2 fh2 w0 w1 w2 w3 w4 w5) ∧ (¬ st2.toInt = 0 → st2 = mho2 ∧ dn2 = mdn2 ∧ tu2 = msd2 ∧ kg = mki ∧ kn2.toInt = mdn2.toInt + mun2.toInt) ∧ (st2.toInt = 0 ↔ st.toInt = 0) ∧ (st2.toInt = 0 → dn2 = dn ∧ kn2 = kn ∧ fh2 = fh) := by
  obtain ⟨om, q1, q2, q3, q4⟩ := HM
  by_cases e : st.toInt = 0
  · have e' := hss.mp e
    have hz := hz0 e
    rcases HX with ⟨a1, a2, c1, c2, c3, c4, c5, c6, -⟩ | ⟨a1, -⟩
    · rcases om with ⟨b1, b2, -⟩ | ⟨b1, -⟩
      · exact ⟨a2.trans b2.symm, fun h => by rw [c1] at h; exact absurd e h, fun h => by rw [c1] at h; exact absurd e h, by rw [c1], fun _ => ⟨c2, c3, c6⟩⟩
      · exact absurd e' b1.1
    · omega
  · have e' : ¬ mho.toInt = 0 := fun h => e (hss.mpr h)
    obtain ⟨d1, d2, d3, d4, d5⟩ := hse e
    have ci := hci e
    have pi := hpi e'
    have pd := hpd e'
    subst d1
    subst d2
    subst d3
    subst d4
    have hci0 := ci
    have hpi0 := pi
    obtain ⟨⟨i1, i2, i3⟩, i4, i5, ⟨i6, i7, i8⟩, i9⟩ := ci
    obtain ⟨⟨⟨y1, y1'⟩, y2, y3, y4, y5⟩, ⟨f1, f2, f3⟩, g1, g2, g3, g4⟩ := pi
    rcases HX with ⟨a1, a2, c1, c2, c3, c4, c5, c6, c7, c8, c9, c10, c11, c12⟩ | ⟨a1, a2, a3, a4, a5, a6⟩ <;> rcases om with ⟨b1, b2, n1, n2, n3⟩ | ⟨b1, b2, n1, n2, n3⟩
    · obtain ⟨pi2, pd2⟩ := q4 (by rw [n1]; exact e)
      have hms : msd2 = tu := (kt_eq _ _).mpr (by rw [pd2.2.1.1, n2, i3])
      exact ⟨a2.trans b2.symm, fun _ => by rw [c2, c3, c4, c5, c6, c7, c8, c9, c10, c11, c12]; exact hci0, fun _ => ⟨by rw [c1, n1], by rw [c2, n2], by rw [c4, hms], rfl, by rw [c3, n2, n3]; exact d5⟩, by rw [c1], fun h => by rw [c1] at h; exact absurd h e⟩
    · exact absurd a1 b1.2
    · exact absurd ⟨e, a1⟩ b1
    · obtain ⟨pi2, pd2⟩ := q4 (by rw [n1]; decide)
      have hdn : dn2 = mdn2 := (kt_eq _ _).mpr (by omega)
      exact ⟨a2.trans b2.symm, fun _ => a6, fun _ => ⟨by rw [a3, n1], hdn, (kt_eq _ _).mpr (by rw [a6.1.2.2, pd2.2.1.1, hdn]), rfl, by rw [a5]; omega⟩, ⟨fun h => by rw [a3] at h; exact absurd h (by decide), fun h => absurd h e⟩, fun h => by rw [a3] at h; exact absurd h (by decide)⟩

theorem kt_againL {ln wd lg lh lr lc lt st dn kn tu kg mho mpc msd mki mdn mun mtk rx rm st2 dn2 kn2 tu2 mho2 mtk2 msd2 mdn2 mun2 : Int32} {ff fh m0 m1 m2 m3 m4 m5 zk za zo zg zm zt zn ff2 fh2 w0 w1 w2 w3 w4 w5 za2 zo2 zn2 zt2 zm2 : Nat → Int32} {PN : Nat} (hln : 2 ≤ ln.toInt ∧ ln.toInt ≤ 9) (hwd : 2 ≤ wd.toInt ∧ wd.toInt ≤ 9) (hlc : 0 ≤ lc.toInt ∧ lc.toInt ≤ 1) (hss : st.toInt = 0 ↔ mho.toInt = 0) (hse : ¬ st.toInt = 0 → st = mho ∧ dn = mdn ∧ tu = msd ∧ kg = mki ∧ kn.toInt = mdn.toInt + mun.toInt) (hci : ¬ st.toInt = 0 → kt_CI wd.toInt ln.toInt PN zg zk lt lh (kt_cut PN zt) zm (zt 40).toInt dn kn tu ff fh m0 m1 m2 m3 m4 m5) (hpi : ¬ mho.toInt = 0 → kt_PI ln wd mpc msd mki mdn mun lt lh zg zk za zo zm zt PN) (hpd : ¬ mho.toInt = 0 → kt_PD ln wd msd mki mdn mun lt lh mho mtk lg lr lc zg zk zm zt zn PN) (hz0 : st.toInt = 0 → dn.toInt = 0 ∧ kn.toInt = 0) (HX : ((kn.toInt ≤ dn.toInt ∧ rx = 0 ∧ (st2 = st ∧ dn2 = dn ∧ kn2 = kn ∧ tu2 = tu ∧ ff2 = ff ∧ fh2 = fh ∧ w0 = m0 ∧ w1 = m1 ∧ w2 = m2 ∧ w3 = m3 ∧ w4 = m4 ∧ w5 = m5)) ∨ (dn.toInt < kn.toInt ∧ rx = 1 ∧ dn2.toInt = dn.toInt + 1 ∧ kn2 = kn ∧ kt_CI wd.toInt ln.toInt PN zg zk lt lh (kt_cut PN zt) zm ((zt 40).toInt) dn2 kn2 tu2 ff2 fh2 w0 w1 w2 w3 w4 w5 ∧ kt_hows PN wd.toInt ln.toInt zg zk lr.toInt lg kg.toNatClampNeg (kt_S (kt_stepf PN wd.toInt ln.toInt zg zk lt lh) (kt_cut PN zt) zm (dn.toInt.toNat + 1)) (kt_sdk ((zt 40).toInt) (dn.toInt.toNat + 1)) (lc = 0 ∧ ∃ k : Nat, k < (dn.toInt.toNat + 1) ∧ (kt_S (kt_stepf PN wd.toInt ln.toInt zg zk lt lh) (kt_cut PN zt) zm k) = (kt_S (kt_stepf PN wd.toInt ln.toInt zg zk lt lh) (kt_cut PN zt) zm (dn.toInt.toNat + 1)) ∧ kt_sdk ((zt 40).toInt) k = kt_sdk ((zt 40).toInt) (dn.toInt.toNat + 1)) st2.toInt))) (HM : ((¬ (¬ mho.toInt = 0 ∧ ¬ mun.toInt = 0) ∧ rm = 0 ∧ mho2 = mho ∧ mdn2 = mdn ∧ mun2 = mun ∧ zm2 = zm) ∨ ((¬ mho.toInt = 0 ∧ ¬ mun.toInt = 0) ∧ rm = 1 ∧ mdn2.toInt = mdn.toInt + 1 ∧ mun2.toInt = mun.toInt - 1 ∧ zm2 = zm)) ∧ (0 ≤ mho2.toInt ∧ mho2.toInt ≤ 4) ∧ (mho.toInt = 0 ↔ mho2.toInt = 0) ∧ (mdn2.toInt + mun2.toInt ≤ mdn.toInt + mun.toInt) ∧ (¬ mho2.toInt = 0 → (kt_PI ln wd mpc msd2 mki mdn2 mun2 lt lh zg zk za2 zo2 zm2 zt2 PN ∧ kt_PD ln wd msd2 mki mdn2 mun2 lt lh mho2 mtk2 lg lr lc zg zk zm2 zt2 zn2 PN) ∧ (∀ j : Nat, j < 41 → zt2 j = zt j))) : rx = rm ∧ (¬ st2.toInt = 0 → kt_CI wd.toInt ln.toInt PN zg zk lt lh (kt_cut PN zt2) zm2 (zt2 40).toInt dn2 kn2 tu2 ff2 fh2 w0 w1 w2 w3 w4 w5) ∧ (¬ st2.toInt = 0 → st2 = mho2 ∧ dn2 = mdn2 ∧ tu2 = msd2 ∧ kg = mki ∧ kn2.toInt = mdn2.toInt + mun2.toInt) ∧ (st2.toInt = 0 ↔ st.toInt = 0) ∧ (st2.toInt = 0 → dn2 = dn ∧ kn2 = kn ∧ fh2 = fh) := by
  obtain ⟨om, q1, q2, q3, q4⟩ := HM
  by_cases e : st.toInt = 0
  · have e' := hss.mp e
    have hz := hz0 e
    rcases HX with ⟨a1, a2, c1, c2, c3, c4, c5, c6, -⟩ | ⟨a1, -⟩
    · rcases om with ⟨b1, b2, -⟩ | ⟨b1, -⟩
      · exact ⟨a2.trans b2.symm, fun h => by rw [c1] at h; exact absurd e h, fun h => by rw [c1] at h; exact absurd e h, by rw [c1], fun _ => ⟨c2, c3, c6⟩⟩
      · exact absurd e' b1.1
    · omega
  · have e' : ¬ mho.toInt = 0 := fun h => e (hss.mpr h)
    obtain ⟨d1, d2, d3, d4, d5⟩ := hse e
    have ci := hci e
    have pi := hpi e'
    have pd := hpd e'
    subst d1
    subst d2
    subst d3
    subst d4
    have hci0 := ci
    have hpi0 := pi
    obtain ⟨⟨i1, i2, i3⟩, i4, i5, ⟨i6, i7, i8⟩, i9⟩ := ci
    obtain ⟨⟨⟨y1, y1'⟩, y2, y3, y4, y5⟩, ⟨f1, f2, f3⟩, g1, g2, g3, g4⟩ := pi
    rcases HX with ⟨a1, a2, c1, c2, c3, c4, c5, c6, c7, c8, c9, c10, c11, c12⟩ | ⟨a1, a2, a3, a4, a5, a6⟩ <;> rcases om with ⟨b1, b2, n1, n2, n3, n4⟩ | ⟨b1, b2, n2, n3, n4⟩
    · obtain ⟨⟨pi2, pd2⟩, k41⟩ := q4 (by rw [n1]; exact e)
      have e0 : kt_cut PN zt2 = kt_cut PN zt := kt_cut_eq (fun j hj => k41 j (by omega))
      have e40 : zt2 40 = zt 40 := k41 40 (by omega)
      have hms : msd2 = tu := (kt_eq _ _).mpr (by rw [pd2.2.1.1, e40, n2, i3])
      exact ⟨a2.trans b2.symm, fun _ => by rw [e0, e40, n4, c2, c3, c4, c5, c6, c7, c8, c9, c10, c11, c12]; exact hci0, fun _ => ⟨by rw [c1, n1], by rw [c2, n2], by rw [c4, hms], rfl, by rw [c3, n2, n3]; exact d5⟩, by rw [c1], fun h => by rw [c1] at h; exact absurd h e⟩
    · have := b1.2; omega
    · exact absurd ⟨e, by omega⟩ b1
    · obtain ⟨⟨pi2, pd2⟩, k41⟩ := q4 (fun h => e (q2.mpr h))
      have e0 : kt_cut PN zt2 = kt_cut PN zt := kt_cut_eq (fun j hj => k41 j (by omega))
      have e40 : zt2 40 = zt 40 := k41 40 (by omega)
      have hmd : mdn2.toInt.toNat = dn.toInt.toNat + 1 := by omega
      have h5 := pd2.2.2.2.1
      rw [e0, e40, n4, hmd] at h5
      have hst : st2 = mho2 := (kt_eq _ _).mpr (kt_hows.uniq a6 h5)
      have hdn : dn2 = mdn2 := (kt_eq _ _).mpr (by omega)
      refine ⟨a2.trans b2.symm, fun _ => by rw [e0, e40, n4]; exact a5, fun _ => ⟨hst, hdn, (kt_eq _ _).mpr (by rw [a5.1.2.2, pd2.2.1.1, e40, hdn]), rfl, by rw [a4]; omega⟩, ⟨fun h => ?_, fun h => absurd h e⟩, fun h => ?_⟩
      · rw [hst] at h; exact q2.mpr h
      · rw [hst] at h; exact absurd (q2.mpr h) e

theorem kt_pth_cong2 {fo fr fr' : Nat → Int32} {kp : Int32} {x w L a : Int} (h : ∀ n : Nat, fr (kt_al x w L a ((n : Int) + 1)).toNat = fr' (kt_al x w L a ((n : Int) + 1)).toNat) : ∀ n, kt_pth fo fr kp x w L a n = kt_pth fo fr' kp x w L a n
  | 0 => rfl
  | n + 1 => by
    unfold kt_pth
    rw [kt_pth_cong2 h n, h n]
theorem kt_can_cong2 {P : Nat} {fo fr fr' fk fk' A : Nat → Int32} {re w L s : Int} (hw : 2 ≤ w ∧ w ≤ 9) (hL : 2 ≤ L ∧ L ≤ 9) (hr : kt_r A P (-1) (L * w - 1)) (hfr : ∀ f : Nat, (f : Int) < L * w → fr f = fr' f) (hfk : ∀ q, q < P → fk q = fk' q) : kt_can P fo fr fk A re w L s ↔ kt_can P fo fr' fk' A re w L s := by
  have hsz := kt_mulb hL hw
  have key : ∀ p a, p < P → ¬ A p = -1 → kt_bar fo fr (fk p) re (A p).toInt w L a 1 = kt_bar fo fr' (fk' p) re (A p).toInt w L a 1 := fun p a hp hne => by
    have hx := hr p hp
    have h3' : ¬ (A p).toInt = -1 := fun e => hne ((kt_eq _ _).mpr (e.trans kt_cm1.symm))
    rw [← hfk p hp]
    unfold kt_bar
    rw [kt_pth_cong2 (fr := fr) (fr' := fr') (fun n => hfr _ (by
      rcases kt_al_r (a := a) (n := (n : Int) + 1) hw hL (show 0 ≤ (A p).toInt ∧ (A p).toInt < L * w by omega) (by omega) with h1 | h1
      · rw [h1.1]; show ((0 : Nat) : Int) < _; omega
      · omega))]
  constructor
  · intro ⟨p, h1, h2, h3, a, h4, h5⟩
    exact ⟨p, h1, by rw [← hfk p h1]; exact h2, h3, a, h4, by rw [← key p a h1 h3]; exact h5⟩
  · intro ⟨p, h1, h2, h3, a, h4, h5⟩
    exact ⟨p, h1, by rw [hfk p h1]; exact h2, h3, a, h4, by rw [key p a h1 h3]; exact h5⟩
theorem kt_HW.cn {K G G' C C' B B' : Prop} {s r : Int} (h : kt_HW K G C B s r) (iG : ¬ K → (G ↔ G')) (iC : C ↔ C') (iB : B ↔ B') : kt_HW K G' C' B' s r := by
  rcases h with a | a | a | a | a
  · exact Or.inl a
  · exact Or.inr (Or.inl ⟨a.1, (iG a.1).mp a.2.1, a.2.2⟩)
  · exact Or.inr (Or.inr (Or.inl ⟨a.1, fun h => a.2.1 ((iG a.1).mpr h), fun h => a.2.2.1 (iC.mpr h), a.2.2.2⟩))
  · exact Or.inr (Or.inr (Or.inr (Or.inl ⟨a.1, fun h => a.2.1 ((iG a.1).mpr h), iC.mp a.2.2.1, iB.mp a.2.2.2.1, a.2.2.2.2⟩)))
  · exact Or.inr (Or.inr (Or.inr (Or.inr ⟨a.1, fun h => a.2.1 ((iG a.1).mpr h), iC.mp a.2.2.1, fun h => a.2.2.2.1 (iB.mpr h), a.2.2.2.2⟩)))

theorem kt_beginL {ln wd lg lh lr lc lt st2 dn2 kn2 tu2 kg2 tt2 gs2 mho2 mpc2 mtk2 msd2 mki2 mdn2 mun2 p1 : Int32} {fg m0 m1 m2 m3 m4 m5 zm zn ff2 fh2 fk2 fs2 ft2 tg2 gl2 nb2 za2 zo2 zt2 zk2 zg2 : Nat → Int32} (hln : 2 ≤ ln.toInt ∧ ln.toInt ≤ 9) (hwd : 2 ≤ wd.toInt ∧ wd.toInt ≤ 9) (hok : kt_ok fg (kt_sz ln wd)) (hp1 : p1.toInt = 0 ∨ p1.toInt = 1) (et : tt2 = nI (kt_ct kt_iP fg (kt_sz ln wd))) (hgs : gs2.toInt = ln.toInt * wd.toInt) (hgf : (∀ f : Nat, (f : Int) < ln.toInt * wd.toInt → kt_gf fg lg wd.toInt ln.toInt tg2 gl2 nb2 f)) (hSU : kt_SU fg (kt_sz ln wd) ff2 fh2 fk2 fs2 ft2 kg2 lt) (hHW : kt_HW (ff2 kg2.toNatClampNeg = -1) (kt_goR lg wd.toInt ln.toInt ((fun f => kt_grd (fg f)) (ff2 kg2.toNatClampNeg).toNatClampNeg) (ff2 kg2.toNatClampNeg).toInt) (kt_can (kt_ct kt_iP fg (kt_sz ln wd)) fh2 (fun f => kt_grd (fg f)) fk2 ff2 lr.toInt wd.toInt ln.toInt p1.toInt) (¬ (0 : Int32) = 0 ∧ lc = 0) p1.toInt st2.toInt) (e1 : tu2 = p1) (e2 : dn2 = 0) (e3 : kn2 = 0) (f1 : mdn2 = 0) (f2 : mun2 = 0) (hpi : kt_PI ln wd mpc2 msd2 mki2 mdn2 mun2 lt lh zg2 zk2 za2 zo2 zm zt2 (kt_ct kt_iP fg (kt_sz ln wd))) (hBG : kt_BG fg (kt_sz ln wd) za2 zk2 zo2 mki2) (hGR : ∀ j, j < 81 → zg2 j = kt_grd (kt_bs fg (kt_sz ln wd) j)) (h40 : zt2 40 = msd2) (hm : msd2 = p1) (hout : ∀ p, (kt_ct kt_iP fg (kt_sz ln wd)) ≤ p → p < 40 → zt2 p = -1) (hmt : mtk2 = -1) (hHM : kt_HW (za2 mki2.toNatClampNeg = -1) (kt_goR lg wd.toInt ln.toInt (zg2 (za2 mki2.toNatClampNeg).toNatClampNeg) (za2 mki2.toNatClampNeg).toInt) (kt_can (kt_ct kt_iP fg (kt_sz ln wd)) zo2 zg2 zk2 za2 lr.toInt wd.toInt ln.toInt p1.toInt) False p1.toInt mho2.toInt) : kt_RX wd.toInt ln.toInt (kt_ct kt_iP fg (kt_sz ln wd)) tt2 kg2 gs2 lg lt tg2 gl2 nb2 zk2 fs2 ft2 zg2 fk2 ∧ kt_CI wd.toInt ln.toInt (kt_ct kt_iP fg (kt_sz ln wd)) zg2 zk2 lt lh (kt_cut (kt_ct kt_iP fg (kt_sz ln wd)) zt2) zm (zt2 40).toInt dn2 kn2 tu2 ff2 fh2 m0 m1 m2 m3 m4 m5 ∧ kt_PD ln wd msd2 mki2 mdn2 mun2 lt lh mho2 mtk2 lg lr lc zg2 zk2 zm zt2 zn (kt_ct kt_iP fg (kt_sz ln wd)) ∧ st2 = mho2 ∧ dn2 = mdn2 ∧ tu2 = msd2 ∧ kg2 = mki2 ∧ kn2.toInt = mdn2.toInt + mun2.toInt := by
  have hsz := kt_mulb hln hwd
  have hN : ((kt_sz ln wd : Nat) : Int) = ln.toInt * wd.toInt := by unfold kt_sz; omega
  have hN81 : kt_sz ln wd ≤ 81 := by omega
  obtain ⟨q1, q2, q3⟩ := hSU.1.eq hBG
  have hfr : ∀ f : Nat, (f : Int) < ln.toInt * wd.toInt → zg2 f = kt_grd (fg f) := fun f hf => by
    rw [hGR f (by omega)]
    unfold kt_bs
    rw [if_pos (by omega)]
  have hrx := hSU.rx (tt := tt2) hN hwd hln hok et hgs hgf zg2 zk2 hfr (fun q hq => (q1 q hq).2)
  have hst := hSU.st (w := wd.toInt) (L := ln.toInt) hN hN81
  have hkg := q3 (by have := hok.1; omega)
  obtain ⟨⟨⟨y1, y1'⟩, y2, y3, y4, y5⟩, ⟨c1, c2, c3⟩, g1, g2, g3, g4⟩ := hpi
  have g3' : kt_cut (kt_ct kt_iP fg (kt_sz ln wd)) za2 = kt_cut (kt_ct kt_iP fg (kt_sz ln wd)) zt2 := by rw [g3, f1]; rfl
  have hzS : ∀ q, q < (kt_ct kt_iP fg (kt_sz ln wd)) → za2 q = kt_cut (kt_ct kt_iP fg (kt_sz ln wd)) zt2 q := fun q hq => by rw [← g3', kt_cut_in hq]
  have hfS : ∀ q, q < (kt_ct kt_iP fg (kt_sz ln wd)) → ff2 q = kt_cut (kt_ct kt_iP fg (kt_sz ln wd)) zt2 q := fun q hq => by rw [(q1 q hq).1]; exact hzS q hq
  have s40 : (zt2 40).toInt = p1.toInt := by rw [h40, hm]
  have hbF : False ↔ (lc = 0 ∧ ∃ i : Nat, i < 0 ∧ (kt_S (kt_stepf (kt_ct kt_iP fg (kt_sz ln wd)) wd.toInt ln.toInt zg2 zk2 lt lh) (kt_cut (kt_ct kt_iP fg (kt_sz ln wd)) zt2) zm i) = (kt_S (kt_stepf (kt_ct kt_iP fg (kt_sz ln wd)) wd.toInt ln.toInt zg2 zk2 lt lh) (kt_cut (kt_ct kt_iP fg (kt_sz ln wd)) zt2) zm 0) ∧ kt_sdk (zt2 40).toInt i = kt_sdk (zt2 40).toInt 0) := ⟨False.elim, fun ⟨_, i, h, _⟩ => absurd h (Nat.not_lt_zero i)⟩
  have hM : kt_hows (kt_ct kt_iP fg (kt_sz ln wd)) wd.toInt ln.toInt zg2 zk2 lr.toInt lg mki2.toInt.toNat (kt_cut (kt_ct kt_iP fg (kt_sz ln wd)) zt2) p1.toInt (lc = 0 ∧ ∃ i : Nat, i < 0 ∧ (kt_S (kt_stepf (kt_ct kt_iP fg (kt_sz ln wd)) wd.toInt ln.toInt zg2 zk2 lt lh) (kt_cut (kt_ct kt_iP fg (kt_sz ln wd)) zt2) zm i) = (kt_S (kt_stepf (kt_ct kt_iP fg (kt_sz ln wd)) wd.toInt ln.toInt zg2 zk2 lt lh) (kt_cut (kt_ct kt_iP fg (kt_sz ln wd)) zt2) zm 0) ∧ kt_sdk (zt2 40).toInt i = kt_sdk (zt2 40).toInt 0) mho2.toInt := kt_hows.of hwd hln y1' c1 c2 c3 hzS (by omega) hbF hHM
  rw [hkg] at hHW
  have hX : kt_hows (kt_ct kt_iP fg (kt_sz ln wd)) wd.toInt ln.toInt zg2 zk2 lr.toInt lg mki2.toInt.toNat (kt_cut (kt_ct kt_iP fg (kt_sz ln wd)) zt2) p1.toInt (lc = 0 ∧ ∃ i : Nat, i < 0 ∧ (kt_S (kt_stepf (kt_ct kt_iP fg (kt_sz ln wd)) wd.toInt ln.toInt zg2 zk2 lt lh) (kt_cut (kt_ct kt_iP fg (kt_sz ln wd)) zt2) zm i) = (kt_S (kt_stepf (kt_ct kt_iP fg (kt_sz ln wd)) wd.toInt ln.toInt zg2 zk2 lt lh) (kt_cut (kt_ct kt_iP fg (kt_sz ln wd)) zt2) zm 0) ∧ kt_sdk (zt2 40).toInt i = kt_sdk (zt2 40).toInt 0) st2.toInt := by
    refine kt_hows.of (B := False) hwd hln y1' hst.1 hst.2.1 hst.2.2.1 hfS (by omega) hbF ?_
    refine hHW.cn (fun hK => ?_) (kt_can_cong2 hwd hln hst.1 (fun f hf => (hfr f hf).symm) (fun q hq => (q1 q hq).2)) ⟨fun h => h.1 rfl, False.elim⟩
    have h5 := hst.1 mki2.toInt.toNat (by omega)
    have h6 : ¬ (ff2 mki2.toInt.toNat).toInt = -1 := fun h => hK ((kt_eq _ _).mpr (h.trans kt_cm1.symm))
    have h7 : zg2 (ff2 mki2.toInt.toNat).toInt.toNat = kt_grd (fg (ff2 mki2.toInt.toNat).toInt.toNat) := hfr _ (by omega)
    show kt_goR lg wd.toInt ln.toInt (kt_grd (fg (ff2 mki2.toInt.toNat).toInt.toNat)) (ff2 mki2.toInt.toNat).toInt ↔ kt_goR lg wd.toInt ln.toInt (zg2 (ff2 mki2.toInt.toNat).toInt.toNat) (ff2 mki2.toInt.toNat).toInt
    rw [h7]
  have z0 : (0 : Int32).toInt.toNat = 0 := by decide
  refine ⟨hrx, ⟨⟨by rw [e2, e3]; decide, by rw [s40]; (clear hbF; omega), by rw [e1, e2, s40]; rfl⟩, hst, ?_, ⟨fun q hq => by rw [← hfS q hq]; exact hst.1 q hq, g1, fun j hj => if_neg (by (clear hbF; omega))⟩, fun k hk => by rw [e3, kt_c0] at hk; (clear hbF; omega)⟩, ⟨fun n hn => ?_, ⟨by rw [f1, s40, hm]; rfl, by rw [s40]; (clear hbF; omega)⟩, fun q hq => hBG.king hok.1 hN81 hq, ?_, fun k hk => by rw [f1, f2, kt_c0] at hk; (clear hbF; omega), fun _ => hmt, fun h => by rw [f1, kt_c0] at h; (clear hbF; omega)⟩, (kt_eq _ _).mpr (hX.uniq hM), by rw [e2, f1], by rw [e1, hm], hkg, by rw [e3, f1, f2]; decide⟩
  · rw [e2]
    show kt_cut (kt_ct kt_iP fg (kt_sz ln wd)) ff2 = kt_cut (kt_ct kt_iP fg (kt_sz ln wd)) zt2
    rw [← g3']
    exact kt_cut_eq (fun j hj => (q1 j hj).1)
  · rw [f1, kt_c0] at hn
    have hn0 : n = 0 := by omega
    rw [hn0]
    exact ⟨rfl, fun p h1 h2 => by rw [Nat.mul_zero, Nat.zero_add]; exact hout p h1 h2⟩
  · rw [f1]
    show kt_hows (kt_ct kt_iP fg (kt_sz ln wd)) wd.toInt ln.toInt zg2 zk2 lr.toInt lg mki2.toInt.toNat (kt_cut (kt_ct kt_iP fg (kt_sz ln wd)) zt2) (zt2 40).toInt (lc = 0 ∧ ∃ i : Nat, i < 0 ∧ (kt_S (kt_stepf (kt_ct kt_iP fg (kt_sz ln wd)) wd.toInt ln.toInt zg2 zk2 lt lh) (kt_cut (kt_ct kt_iP fg (kt_sz ln wd)) zt2) zm i) = (kt_S (kt_stepf (kt_ct kt_iP fg (kt_sz ln wd)) wd.toInt ln.toInt zg2 zk2 lt lh) (kt_cut (kt_ct kt_iP fg (kt_sz ln wd)) zt2) zm 0) ∧ kt_sdk (zt2 40).toInt i = kt_sdk (zt2 40).toInt 0) mho2.toInt
    rw [s40] at hM ⊢
    exact hM

/-- the reference's count of what the latest move took -/
theorem kt_mtx {ml mw msd mki mdn mun mkt mhd mho mtk mgl mre mag : Int32} {fr fk mv gs ft : Nat → Int32} {P : Nat} (h : kt_PD ml mw msd mki mdn mun mkt mhd mho mtk mgl mre mag fr fk mv gs ft P) (hd : 0 ≤ mdn.toInt) (hP : P ≤ 40) : mtk.toInt ≤ (kt_ct kt_nz ft P : Int) := by
  by_cases c : 0 < mdn.toInt
  · obtain ⟨h1, h2⟩ := h.2.2.2.2.2.2 c
    have h3 := kt_tn_ct h2
    have h4 := kt_ct_le kt_nz ft P
    rw [h1, ← h3, kt_nI (by omega)]
    exact Int.le_refl _
  · rw [h.2.2.2.2.2.1 (by omega), kt_cm1]
    omega
