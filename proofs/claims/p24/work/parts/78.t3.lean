theorem kt_gdL {ln wd lg lh lr lc lt st dn kn tu kg mho mpc msd mki mdn mun mtk msv sv pp : Int32} {ff fh m0 m1 m2 m3 m4 m5 zk za zo zg zm zt zn fp wo de ta ga zw zd : Nat → Int32} {PN : Nat} (hln : 2 ≤ ln.toInt ∧ ln.toInt ≤ 9) (hwd : 2 ≤ wd.toInt ∧ wd.toInt ≤ 9) (hlc : 0 ≤ lc.toInt ∧ lc.toInt ≤ 1) (hss : st.toInt = 0 ↔ mho.toInt = 0) (hse : ¬ st.toInt = 0 → st = mho ∧ dn = mdn ∧ tu = msd ∧ kg = mki ∧ kn.toInt = mdn.toInt + mun.toInt) (hci : ¬ st.toInt = 0 → kt_CI wd.toInt ln.toInt PN zg zk lt lh (kt_cut PN zt) zm (zt 40).toInt dn kn tu ff fh m0 m1 m2 m3 m4 m5) (hpi : ¬ mho.toInt = 0 → kt_PI ln wd mpc msd mki mdn mun lt lh zg zk za zo zm zt PN) (hpd : ¬ mho.toInt = 0 → kt_PD ln wd msd mki mdn mun lt lh mho mtk lg lr lc zg zk zm zt zn PN) (hgG : ¬ mho.toInt = 0 → kt_GS PN zg zk (fun k => kt_S (kt_stepf PN wd.toInt ln.toInt zg zk lt lh) (kt_cut PN zt) zm k) (mdn.toInt + mun.toInt)) (hsm : sv.toInt = 0 ↔ msv.toInt = 0) (hsx : ¬ sv.toInt = 0 → ¬ st.toInt = 0) (hsvt : ¬ sv.toInt = 0 → kt_SV ((ln.toInt * wd.toInt).toNat + 1) PN kg.toInt.toNat wd.toInt ln.toInt zg zk lr.toInt lg lt lh pp fp wo de ta ga) (hmvt : ¬ msv.toInt = 0 → ∀ s, s < (2 * ((ln.toInt * wd.toInt).toNat + 1) ^ PN) → kt_sol 4 (kt_ev ((ln.toInt * wd.toInt).toNat + 1) PN wd.toInt ln.toInt zg zk lr.toInt lg mki.toInt.toNat) (kt_ed ((ln.toInt * wd.toInt).toNat + 1) PN wd.toInt ln.toInt zg zk lr.toInt lt lh) (fun s => (zw s).toInt) (fun s => (zd s).toInt) s) : ¬ msv.toInt = 0 → kt_gdp (ln.toInt * wd.toInt) zg zk (fun p => ((kt_dg ((ln.toInt * wd.toInt).toNat + 1) (kt_pn ((ln.toInt * wd.toInt).toNat + 1) za PN) p : Nat) : Int)) PN := by
  have hsz := kt_mulb hln hwd
  have hBl : ((((ln.toInt * wd.toInt).toNat + 1) : Nat) : Int) = ln.toInt * wd.toInt + 1 := by omega
  intro hmv
  have h0 : ¬ sv.toInt = 0 := fun h => hmv (hsm.mp h)
  have e : ¬ st.toInt = 0 := hsx h0
  have e' : ¬ mho.toInt = 0 := fun h => e (hss.mpr h)
  obtain ⟨d1, d2, d3, d4, d5⟩ := hse e
  have hci0 := hci e
  have hpi0 := hpi e'
  have hg := hgG e'
  obtain ⟨⟨i1, i2, i3⟩, i4, i5, ⟨i6, i7, i8⟩, i9⟩ := hci0
  obtain ⟨⟨⟨y1, y1'⟩, y2, y3, y4, y5⟩, ⟨f1, f2, f3⟩, g1, g2, g3, g4⟩ := hpi0
  have hfz : ∀ q, q < PN → ff q = za q := fun q hq => by
    have h5 := congrFun (show kt_cut PN ff = kt_cut PN za by rw [i5, d2]; exact g3.symm) q
    rw [kt_cut_in hq, kt_cut_in hq] at h5
    exact h5
  have hfv : ∀ j, j < PN → za j = -1 ∨ (0 ≤ (za j).toInt ∧ (za j).toInt < ((((ln.toInt * wd.toInt).toNat + 1) : Nat) : Int) - 1) := fun j hj => by
    have h5 := f1 j hj
    by_cases c : za j = -1
    · exact Or.inl c
    · have h6 : ¬ (za j).toInt = -1 := fun h7 => c ((kt_eq _ _).mpr (h7.trans kt_cm1.symm))
      exact Or.inr (by omega)
  have hpn : kt_pn ((ln.toInt * wd.toInt).toNat + 1) ff PN = kt_pn ((ln.toInt * wd.toInt).toNat + 1) za PN := kt_pn_cong hfz
  have hlt : kt_pn ((ln.toInt * wd.toInt).toNat + 1) za PN < ((ln.toInt * wd.toInt).toNat + 1) ^ PN := kt_pn_v (by omega) hfv
  have hinj : kt_inj za PN := by
    have h5 := kt_coc.inj y1' f3
    intro i j f hi hj hf a b
    exact h5 i j f hi hj hf (by rw [kt_cut_in hi]; exact a) (by rw [kt_cut_in hj]; exact b)
  have hgood : ∀ p, p < PN → ¬ za p = -1 → zg (za p).toInt.toNat = 0 ∨ zk p = 2 := fun p hp => by
    have h5 := hg mdn.toInt.toNat (by omega) p hp
    have h6 : (kt_S (kt_stepf PN wd.toInt ln.toInt zg zk lt lh) (kt_cut PN zt) zm mdn.toInt.toNat) p = za p := by rw [← g3, kt_cut_in hp]
    have h7 : ¬ (kt_S (kt_stepf PN wd.toInt ln.toInt zg zk lt lh) (kt_cut PN zt) zm mdn.toInt.toNat) p = -1 → zg ((kt_S (kt_stepf PN wd.toInt ln.toInt zg zk lt lh) (kt_cut PN zt) zm mdn.toInt.toNat) p).toInt.toNat = 0 ∨ zk p = 2 := h5
    rw [h6] at h7
    exact h7
  have hgd := kt_GS.gdp (fr := zg) (fk := zk) hBl hsz hfv hinj hgood
  exact hgd

theorem kt_sv1L {ln wd lg lh lr lt st dn kn tu kg tt gs gm mho msd mki mdn mun sv pp : Int32} {ff fh m0 m1 m2 m3 m4 m5 zk zg zm zt fp wo de ta ga : Nat → Int32} {PN : Nat} (hln : 2 ≤ ln.toInt ∧ ln.toInt ≤ 9) (hwd : 2 ≤ wd.toInt ∧ wd.toInt ≤ 9) (hss : st.toInt = 0 ↔ mho.toInt = 0) (hse : ¬ st.toInt = 0 → st = mho ∧ dn = mdn ∧ tu = msd ∧ kg = mki ∧ kn.toInt = mdn.toInt + mun.toInt) (hsx : ¬ sv.toInt = 0 → ¬ st.toInt = 0) (hsvt : ¬ sv.toInt = 0 → kt_SV ((ln.toInt * wd.toInt).toNat + 1) PN kg.toInt.toNat wd.toInt ln.toInt zg zk lr.toInt lg lt lh pp fp wo de ta ga) (hgeo : ¬ st.toInt = 0 → gs.toInt = ln.toInt * wd.toInt ∧ gm.toInt = ln.toInt + wd.toInt - 2) (hrt : ¬ st.toInt = 0 → tt = nI PN ∧ PN ≤ 40) (hci : ¬ st.toInt = 0 → kt_CI wd.toInt ln.toInt PN zg zk lt lh (kt_cut PN zt) zm (zt 40).toInt dn kn tu ff fh m0 m1 m2 m3 m4 m5) : ¬ sv.toInt = 0 → tt.toInt = (PN : Int) ∧ PN ≤ 40 ∧ (gs.toInt = (((ln.toInt * wd.toInt).toNat + 1 : Nat) : Int) - 1 ∧ 5 ≤ ((ln.toInt * wd.toInt).toNat + 1 : Nat) ∧ ((ln.toInt * wd.toInt).toNat + 1 : Nat) ≤ 82) ∧ ((ln.toInt * wd.toInt).toNat + 1 : Nat) ^ PN ≤ 5000 ∧ pp.toInt = ((((ln.toInt * wd.toInt).toNat + 1 : Nat) ^ PN : Nat) : Int) ∧ (∀ p, p < PN → (fp p).toInt = ((((ln.toInt * wd.toInt).toNat + 1 : Nat) ^ p : Nat) : Int)) ∧ ∀ j, j < PN → (ff j = -1 ∨ (0 ≤ (ff j).toInt ∧ (ff j).toInt < (((ln.toInt * wd.toInt).toNat + 1 : Nat) : Int) - 1)) := by
  have hsz := kt_mulb hln hwd
  have hBl : ((((ln.toInt * wd.toInt).toNat + 1) : Nat) : Int) = ln.toInt * wd.toInt + 1 := by omega
  intro h0
  have e : ¬ st.toInt = 0 := hsx h0
  obtain ⟨v1, v2, v3, v4, v5⟩ := hsvt h0
  obtain ⟨t1, t2⟩ := hrt e
  have hci0 := hci e
  obtain ⟨-, i4, -⟩ := hci0
  have hge := (hgeo e).1
  refine ⟨by rw [t1, kt_nI (by omega)], t2, ⟨by omega, by omega, by omega⟩, v3, v1, v2, fun j hj => ?_⟩
  have h5 := i4.1 j hj
  by_cases c : ff j = -1
  · exact Or.inl c
  · have h6 : ¬ (ff j).toInt = -1 := fun h7 => c ((kt_eq _ _).mpr (h7.trans kt_cm1.symm))
    exact Or.inr (by omega)

theorem kt_backG {ln wd lg lh lr lc lt mho mpc mki mdn mun rm mho2 mtk2 msd2 mdn2 mun2 : Int32} {zk zg zm zt za2 zo2 zn2 : Nat → Int32} {PN : Nat} (hgG : ¬ mho.toInt = 0 → kt_GS PN zg zk (fun k => kt_S (kt_stepf PN wd.toInt ln.toInt zg zk lt lh) (kt_cut PN zt) zm k) (mdn.toInt + mun.toInt)) (HM : ((¬ (¬ mho.toInt = 0 ∧ ¬ mdn.toInt = 0) ∧ rm = 0 ∧ mho2 = mho ∧ mdn2 = mdn ∧ mun2 = mun) ∨ ((¬ mho.toInt = 0 ∧ ¬ mdn.toInt = 0) ∧ rm = 1 ∧ mho2 = 1 ∧ mdn2.toInt = mdn.toInt - 1 ∧ mun2.toInt = mun.toInt + 1)) ∧ (0 ≤ mho2.toInt ∧ mho2.toInt ≤ 4) ∧ (mho.toInt = 0 ↔ mho2.toInt = 0) ∧ (mdn2.toInt + mun2.toInt ≤ mdn.toInt + mun.toInt) ∧ (¬ mho2.toInt = 0 → kt_PI ln wd mpc msd2 mki mdn2 mun2 lt lh zg zk za2 zo2 zm zt PN ∧ kt_PD ln wd msd2 mki mdn2 mun2 lt lh mho2 mtk2 lg lr lc zg zk zm zt zn2 PN)) : ¬ mho2.toInt = 0 → kt_GS PN zg zk (fun k => kt_S (kt_stepf PN wd.toInt ln.toInt zg zk lt lh) (kt_cut PN zt) zm k) (mdn2.toInt + mun2.toInt) := by
  obtain ⟨om, q1, q2, q3, q4⟩ := HM
  intro h2
  have hg := hgG (fun h => h2 (q2.mp h))
  exact fun k hk => hg k (by omega)

theorem kt_againG {ln wd lg lh lr lc lt mho mpc msd mki mdn mun rm mho2 mtk2 msd2 mdn2 mun2 : Int32} {zk za zo zg zm zt za2 zo2 zn2 zt2 zm2 : Nat → Int32} {PN : Nat} (hpi : ¬ mho.toInt = 0 → kt_PI ln wd mpc msd mki mdn mun lt lh zg zk za zo zm zt PN) (hgG : ¬ mho.toInt = 0 → kt_GS PN zg zk (fun k => kt_S (kt_stepf PN wd.toInt ln.toInt zg zk lt lh) (kt_cut PN zt) zm k) (mdn.toInt + mun.toInt)) (HM : ((¬ (¬ mho.toInt = 0 ∧ ¬ mun.toInt = 0) ∧ rm = 0 ∧ mho2 = mho ∧ mdn2 = mdn ∧ mun2 = mun ∧ zm2 = zm) ∨ ((¬ mho.toInt = 0 ∧ ¬ mun.toInt = 0) ∧ rm = 1 ∧ mdn2.toInt = mdn.toInt + 1 ∧ mun2.toInt = mun.toInt - 1 ∧ zm2 = zm)) ∧ (0 ≤ mho2.toInt ∧ mho2.toInt ≤ 4) ∧ (mho.toInt = 0 ↔ mho2.toInt = 0) ∧ (mdn2.toInt + mun2.toInt ≤ mdn.toInt + mun.toInt) ∧ (¬ mho2.toInt = 0 → (kt_PI ln wd mpc msd2 mki mdn2 mun2 lt lh zg zk za2 zo2 zm2 zt2 PN ∧ kt_PD ln wd msd2 mki mdn2 mun2 lt lh mho2 mtk2 lg lr lc zg zk zm2 zt2 zn2 PN) ∧ (∀ j : Nat, j < 41 → zt2 j = zt j))) : ¬ mho2.toInt = 0 → kt_GS PN zg zk (fun k => kt_S (kt_stepf PN wd.toInt ln.toInt zg zk lt lh) (kt_cut PN zt2) zm2 k) (mdn2.toInt + mun2.toInt) := by
  obtain ⟨om, q1, q2, q3, q4⟩ := HM
  intro h2
  have h1 : ¬ mho.toInt = 0 := fun h => h2 (q2.mp h)
  have hg := hgG h1
  have y1' := (hpi h1).1.1.2
  obtain ⟨-, k41⟩ := q4 h2
  have e0 : kt_cut PN zt2 = kt_cut PN zt := kt_cut_eq (fun j hj => k41 j (by omega))
  have ez : zm2 = zm := by
    rcases om with ⟨-, -, -, -, -, h⟩ | ⟨-, -, -, -, h⟩ <;> exact h
  rw [e0, ez]
  exact fun k hk => hg k (by omega)
