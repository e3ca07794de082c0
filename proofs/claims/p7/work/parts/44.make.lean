theorem kt_nIinj {a b : Nat} (ha : a < 1000000000) (hb : b < 1000000000) (h : nI a = nI b) : a = b := (nI_eq (by omega) (by omega)).mp h
theorem kt_nIm1 {a : Nat} (ha : a < 1000000000) : ¬ nI a = -1 := by
  rw [kt_eq, kt_nI ha, kt_cm1]; omega
/-- a piece goes from a to t -/
theorem kt_con.move {fo fa : Nat → Int32} {P p a t : Nat} (hc : kt_con fo fa P) (hp : p < P) (ha : fa p = nI a) (h81 : a < 81) : kt_con (upd (upd fo a (-1)) t (nI p)) (upd fa p (nI t)) P := by
  intro f hf hne
  by_cases e : f = t
  · subst e
    exact ⟨p, hp, pk_us, pk_us⟩
  · rw [pk_un e] at hne
    by_cases e2 : f = a
    · subst e2; exact absurd pk_us hne
    · rw [pk_un e2] at hne
      obtain ⟨q, hq, h1, h2⟩ := hc f hf hne
      have hqp : q ≠ p := fun e3 => by
        rw [e3, ha] at h2
        exact e2 (kt_nIinj (by omega) (by omega) h2).symm
      exact ⟨q, hq, by rw [pk_un e, pk_un e2]; exact h1, by rw [pk_un hqp]; exact h2⟩
/-- a piece is taken off its field a -/
theorem kt_con.drop {fo fa : Nat → Int32} {P k a : Nat} {x : Int32} (hc : kt_con fo fa P) (ha : fa k = nI a) (h81 : a < 81) : kt_con (upd fo a (-1)) (upd fa k x) P := by
  intro f hf hne
  by_cases e2 : f = a
  · subst e2; exact absurd pk_us hne
  · rw [pk_un e2] at hne
    obtain ⟨q, hq, h1, h2⟩ := hc f hf hne
    have hqp : q ≠ k := fun e3 => by
      rw [e3, ha] at h2
      exact e2 (kt_nIinj (by omega) (by omega) h2).symm
    exact ⟨q, hq, by rw [pk_un e2]; exact h1, by rw [pk_un hqp]; exact h2⟩
/-- who stands on a field is a piece, and is there -/
theorem kt_con.at {fo fa : Nat → Int32} {P f : Nat} {x : Int32} (hc : kt_con fo fa P) (hP : P ≤ 40) (hf : f < 81) (hx : x = fo f) (hne : ¬ x = -1) : (0 ≤ x.toInt ∧ x.toInt < (P : Int)) ∧ (fa x.toNatClampNeg).toInt = (f : Int) := by
  obtain ⟨q, hq, h1, h2⟩ := hc f hf (by rw [← hx]; exact hne)
  have e : x = nI q := hx.trans h1
  have e2 := kt_nI (n := q) (by omega)
  rw [e, e2]
  refine ⟨by omega, ?_⟩
  rw [nI_clamp (by omega), h2, kt_nI (by omega)]

theorem iw_X11_make_X11 : ∀ w ∈ wsX110, w ∈ wsX11_make := fun _ h => kt_wp_X11_make__X110 h
set_option maxHeartbeats 4000000 in
set_option maxRecDepth 100000 in
theorem c_X11_make (l : Launch) (D : va_G) (cI cZ cB : ClassId) (sz : Nat) (mx : Nat) (ms : Nat) (mk : Nat) (ma : Nat) (mo : Nat) (mg : Nat) (mm : Nat) (mt : Nat) (mn : Nat) (me : Nat) (mq : Nat) (mwo : Nat) (md : Nat) (mf : Nat) (mr : Nat) (ml : Int32) (mw : Int32) (mgl : Int32) (mhd : Int32) (mre : Int32) (mag : Int32) (mkt : Int32) (mho : Int32) (mpc : Int32) (msd : Int32) (mki : Int32) (mdn : Int32) (mun : Int32) (mtk : Int32) (msv : Int32) (P_ : Nat) (fa : Nat → Int32) (fo : Nat → Int32) (fr : Nat → Int32) (fk : Nat → Int32) (ft : Nat → Int32) (p1 : Int32) (p2 : Int32) (p3 : Int32) (hml_ : 2 ≤ ml.toInt ∧ ml.toInt ≤ 9) (hmw : 2 ≤ mw.toInt ∧ mw.toInt ≤ 9) (hpc : (P_ : Int) = mpc.toInt ∧ P_ ≤ 40) (hfa : kt_r fa P_ (-1) (ml.toInt * mw.toInt - 1)) (hco : kt_con fo fa P_) (hp1 : 0 ≤ p1.toInt ∧ p1.toInt < (P_ : Int)) (hon : 0 ≤ (fa p1.toNatClampNeg).toInt) (hp3 : 1 ≤ p3.toInt) (hrom : p3.toInt ≤ kt_rom (fa p1.toNatClampNeg).toInt mw.toInt ml.toInt p2.toInt) (hsd : 0 ≤ msd.toInt ∧ msd.toInt ≤ 1) : kt_Mv l yX11_make wsX11_make { frames := 3, cells := 0, slots := 0, locals := 67 } D (kt_ty cI cZ cB) [.ref mx, .int p1, .int p2, .int p3] sz [(mx, .inr (11, [.int ml, .int mw, .ref ms, .int mgl, .int mhd, .int mre, .int mag, .int mkt, .int mho, .int mpc, .int msd, .int mki, .ref mk, .ref ma, .ref mo, .ref mg, .ref mm, .ref mt, .int mdn, .int mun, .ref mn, .int mtk, .ref me, .ref mq, .int msv, .ref mwo, .ref md, .ref mf, .ref mr])), (ma, .inl (cI, 40, .inl fa)), (mo, .inl (cI, 81, .inl fo)), (mg, .inl (cI, 81, .inl fr)), (mk, .inl (cI, 40, .inl fk)), (mn, .inl (cZ, 40, .inl ft))] (fun (u : (Nat → Int32) × (Nat → Int32) × (Nat → Int32) × Int32 × Int32) => kt_r u.1 P_ (-1) (ml.toInt * mw.toInt - 1) ∧ kt_con u.2.1 u.1 P_ ∧ 0 ≤ u.2.2.2.2.toInt ∧ u.2.2.2.2.toInt ≤ 1) (fun (u : (Nat → Int32) × (Nat → Int32) × (Nat → Int32) × Int32 × Int32) => [(mx, .inr (11, [.int ml, .int mw, .ref ms, .int mgl, .int mhd, .int mre, .int mag, .int mkt, .int mho, .int mpc, .int u.2.2.2.2, .int mki, .ref mk, .ref ma, .ref mo, .ref mg, .ref mm, .ref mt, .int mdn, .int mun, .ref mn, .int u.2.2.2.1, .ref me, .ref mq, .int msv, .ref mwo, .ref md, .ref mf, .ref mr])), (ma, .inl (cI, 40, .inl u.1)), (mo, .inl (cI, 81, .inl u.2.1)), (mg, .inl (cI, 81, .inl fr)), (mk, .inl (cI, 40, .inl fk)), (mn, .inl (cZ, 40, .inl u.2.2.1))]) 0 0 := by
  refine kt_Mv.of (cc := cX11_make) (maxL := 7) (ret := none) (by decide) rfl (Nat.le_of_ble_eq_true rfl) ?_
  intro p e s m below meth c A ls H hAt hP hD hS hl
  obtain ⟨hx, hb, hr, hml, hown, hts, hN, hK, hlk, hnm, hA⟩ := hAt
  have hl : lv_has ls 7 [(0, .ref mx), (1, .int p1), (2, .int p2), (3, .int p3)] := hl
  have hown : s.vm.findClass RX11 = some m.cls := hown
  have hsb := kt_mulb hml_ hmw
  have hfp := hfa.get (kt_in (x := p1) (n := P_) (by omega) (by omega))
  refine lv_aload_n hx hb dX11_make_0 rfl (lv_at hl 0 rfl) ?_
  refine lv_aload_n hx hb dX11_make_1 rfl (lv_at hl 0 rfl) ?_
  refine va_get (D := D) (ci := 11) (C := RX11) (T := TX11) (N := 29) hx hb hts iw_X11_make_X11 hown hK hP 0 rfl rfl 13 (by decide) (hts (.fieldLink RX11 30 "KingTableModel" "at" "[I") (kt_wp_X11_make__X11_make_r1 kt_wm0)) (fun _ h9 => h9) rfl dX11_make_2 ?_
  refine lv_iload_n hx hb dX11_make_5 rfl (lv_at hl 1 rfl) ?_
  have hi_1 : vp_in p1 40 := by exact kt_in (by omega) (by omega)
  refine va_iald hx hb hK hP 1 0 rfl rfl hi_1 dX11_make_6 ?_
  refine lv_topi (fun a_6 ea_6 => ?_)
  refine lv_iload_n hx hb dX11_make_7 rfl (lv_at hl 2 rfl) ?_
  refine lv_iload_n hx hb dX11_make_8 rfl (lv_at hl 3 rfl) ?_
  refine kt_pi (wc := [(mx, .inr (11, [.int ml, .int mw, .ref ms, .int mgl, .int mhd, .int mre, .int mag, .int mkt, .int mho, .int mpc, .int msd, .int mki, .ref mk, .ref ma, .ref mo, .ref mg, .ref mm, .ref mt, .int mdn, .int mun, .ref mn, .int mtk, .ref me, .ref mq, .int msv, .ref mwo, .ref md, .ref mf, .ref mr]))]) [0] hP hD hS hA rfl (by decide) (fun hPc hDc => va_runV (As := [.int a_6, .int p2, .int p3]) (rest := []) ⟨hx, hb, hml, hown, hts⟩ (c_X11_along l D cI cZ cB H.size mx ms mk ma mo mg mm mt mn me mq mwo md mf mr ml mw mgl mhd mre mag mkt mho mpc msd mki mdn mun mtk msv a_6 p2 p3 hml_ hmw (by rw [ea_6]; omega) hp3) (cwV 3 hts gX11_make_X11_along rfl rfl rfl (by decide +kernel) ⟨Nat.le_of_ble_eq_true rfl, Nat.le_of_ble_eq_true rfl⟩) (kt_preV hN hK hPc hDc 0 (ci := 11) (q := (RX11, TX11, 29)) rfl rfl) rfl rfl hl.1 rfl (lv_room (Nat.le_of_ble_eq_true rfl)) dX11_make_9 ⟨Nat.le_of_ble_eq_true rfl, Nat.le_of_ble_eq_true rfl⟩) (fun r_9 _ H locs hw_9 hP hS => ?_)
  rw [ea_6] at hw_9
  have hto := hw_9.1 hrom
  refine lv_istore (lv' := [(4, .int r_9), (0, .ref mx), (1, .int p1), (2, .int p2), (3, .int p3)]) hx hb dX11_make_12 hl (by decide) rfl (fun ls hl => ?_)
  refine lv_aload_n hx hb dX11_make_14 rfl (lv_at hl 1 rfl) ?_
  refine va_get (D := D) (ci := 11) (C := RX11) (T := TX11) (N := 29) hx hb hts iw_X11_make_X11 hown hK hP 0 rfl rfl 14 (by decide) (hts (.fieldLink RX11 33 "KingTableModel" "on" "[I") (kt_wp_X11_make__X11_make_r1 kt_wm1)) (fun _ h9 => h9) rfl dX11_make_15 ?_
  refine lv_aload_n hx hb dX11_make_18 rfl (lv_at hl 1 rfl) ?_
  refine va_get (D := D) (ci := 11) (C := RX11) (T := TX11) (N := 29) hx hb hts iw_X11_make_X11 hown hK hP 0 rfl rfl 13 (by decide) (hts (.fieldLink RX11 30 "KingTableModel" "at" "[I") (kt_wp_X11_make__X11_make_r1 kt_wm0)) (fun _ h9 => h9) rfl dX11_make_19 ?_
  refine lv_iload_n hx hb dX11_make_22 rfl (lv_at hl 2 rfl) ?_
  have hi_2 : vp_in p1 40 := by exact kt_in (by omega) (by omega)
  refine va_iald hx hb hK hP 1 0 rfl rfl hi_2 dX11_make_23 ?_
  refine lv_topi (fun a_23 ea_23 => ?_)
  have he23 : a_23.toInt = (fa p1.toNatClampNeg).toInt := by rw [ea_23]
  refine lv_iconst (v := (-1)) hx hb dX11_make_24 (by decide) ?_
  have hi_3 : vp_in a_23 81 := by exact kt_in (by omega) (by omega)
  refine va_iast hx hb hK hP hD hS 2 0 rfl rfl hi_3 dX11_make_25 (fun H locs hP hD hS => ?_)
  obtain ⟨b0, eb0⟩ : ∃ g : Nat → Int32, g = upd fo a_23.toNatClampNeg (-1) := ⟨_, rfl⟩
  rw [← eb0] at hP hD
  have hP : va_P D vwCl [(mx, .inr (11, [.int ml, .int mw, .ref ms, .int mgl, .int mhd, .int mre, .int mag, .int mkt, .int mho, .int mpc, .int msd, .int mki, .ref mk, .ref ma, .ref mo, .ref mg, .ref mm, .ref mt, .int mdn, .int mun, .ref mn, .int mtk, .ref me, .ref mq, .int msv, .ref mwo, .ref md, .ref mf, .ref mr])), (ma, .inl (cI, 40, .inl fa)), (mo, .inl (cI, 81, .inl b0)), (mg, .inl (cI, 81, .inl fr)), (mk, .inl (cI, 40, .inl fk)), (mn, .inl (cZ, 40, .inl ft))] H := hP
  have hD : va_D A [(mx, .inr (11, [.int ml, .int mw, .ref ms, .int mgl, .int mhd, .int mre, .int mag, .int mkt, .int mho, .int mpc, .int msd, .int mki, .ref mk, .ref ma, .ref mo, .ref mg, .ref mm, .ref mt, .int mdn, .int mun, .ref mn, .int mtk, .ref me, .ref mq, .int msv, .ref mwo, .ref md, .ref mf, .ref mr])), (ma, .inl (cI, 40, .inl fa)), (mo, .inl (cI, 81, .inl b0)), (mg, .inl (cI, 81, .inl fr)), (mk, .inl (cI, 40, .inl fk)), (mn, .inl (cZ, 40, .inl ft))] := hD
  refine lv_aload_n hx hb dX11_make_26 rfl (lv_at hl 1 rfl) ?_
  refine va_get (D := D) (ci := 11) (C := RX11) (T := TX11) (N := 29) hx hb hts iw_X11_make_X11 hown hK hP 0 rfl rfl 13 (by decide) (hts (.fieldLink RX11 30 "KingTableModel" "at" "[I") (kt_wp_X11_make__X11_make_r1 kt_wm0)) (fun _ h9 => h9) rfl dX11_make_27 ?_
  refine lv_iload_n hx hb dX11_make_30 rfl (lv_at hl 2 rfl) ?_
  refine lv_iload hx hb dX11_make_31 (lv_at hl 0 rfl) ?_
  have hi_4 : vp_in p1 40 := by exact kt_in (by omega) (by omega)
  refine va_iast hx hb hK hP hD hS 1 0 rfl rfl hi_4 dX11_make_33 (fun H locs hP hD hS => ?_)
  obtain ⟨b1, eb1⟩ : ∃ g : Nat → Int32, g = upd fa p1.toNatClampNeg r_9 := ⟨_, rfl⟩
  rw [← eb1] at hP hD
  have hP : va_P D vwCl [(mx, .inr (11, [.int ml, .int mw, .ref ms, .int mgl, .int mhd, .int mre, .int mag, .int mkt, .int mho, .int mpc, .int msd, .int mki, .ref mk, .ref ma, .ref mo, .ref mg, .ref mm, .ref mt, .int mdn, .int mun, .ref mn, .int mtk, .ref me, .ref mq, .int msv, .ref mwo, .ref md, .ref mf, .ref mr])), (ma, .inl (cI, 40, .inl b1)), (mo, .inl (cI, 81, .inl b0)), (mg, .inl (cI, 81, .inl fr)), (mk, .inl (cI, 40, .inl fk)), (mn, .inl (cZ, 40, .inl ft))] H := hP
  have hD : va_D A [(mx, .inr (11, [.int ml, .int mw, .ref ms, .int mgl, .int mhd, .int mre, .int mag, .int mkt, .int mho, .int mpc, .int msd, .int mki, .ref mk, .ref ma, .ref mo, .ref mg, .ref mm, .ref mt, .int mdn, .int mun, .ref mn, .int mtk, .ref me, .ref mq, .int msv, .ref mwo, .ref md, .ref mf, .ref mr])), (ma, .inl (cI, 40, .inl b1)), (mo, .inl (cI, 81, .inl b0)), (mg, .inl (cI, 81, .inl fr)), (mk, .inl (cI, 40, .inl fk)), (mn, .inl (cZ, 40, .inl ft))] := hD
  refine lv_aload_n hx hb dX11_make_34 rfl (lv_at hl 1 rfl) ?_
  refine va_get (D := D) (ci := 11) (C := RX11) (T := TX11) (N := 29) hx hb hts iw_X11_make_X11 hown hK hP 0 rfl rfl 14 (by decide) (hts (.fieldLink RX11 33 "KingTableModel" "on" "[I") (kt_wp_X11_make__X11_make_r1 kt_wm1)) (fun _ h9 => h9) rfl dX11_make_35 ?_
  refine lv_iload hx hb dX11_make_38 (lv_at hl 0 rfl) ?_
  refine lv_iload_n hx hb dX11_make_40 rfl (lv_at hl 2 rfl) ?_
  have hi_5 : vp_in r_9 81 := by exact kt_in (by omega) (by omega)
  refine va_iast hx hb hK hP hD hS 2 0 rfl rfl hi_5 dX11_make_41 (fun H locs hP hD hS => ?_)
  obtain ⟨b2, eb2⟩ : ∃ g : Nat → Int32, g = upd b0 r_9.toNatClampNeg p1 := ⟨_, rfl⟩
  rw [← eb2] at hP hD
  have hP : va_P D vwCl [(mx, .inr (11, [.int ml, .int mw, .ref ms, .int mgl, .int mhd, .int mre, .int mag, .int mkt, .int mho, .int mpc, .int msd, .int mki, .ref mk, .ref ma, .ref mo, .ref mg, .ref mm, .ref mt, .int mdn, .int mun, .ref mn, .int mtk, .ref me, .ref mq, .int msv, .ref mwo, .ref md, .ref mf, .ref mr])), (ma, .inl (cI, 40, .inl b1)), (mo, .inl (cI, 81, .inl b2)), (mg, .inl (cI, 81, .inl fr)), (mk, .inl (cI, 40, .inl fk)), (mn, .inl (cZ, 40, .inl ft))] H := hP
  have hD : va_D A [(mx, .inr (11, [.int ml, .int mw, .ref ms, .int mgl, .int mhd, .int mre, .int mag, .int mkt, .int mho, .int mpc, .int msd, .int mki, .ref mk, .ref ma, .ref mo, .ref mg, .ref mm, .ref mt, .int mdn, .int mun, .ref mn, .int mtk, .ref me, .ref mq, .int msv, .ref mwo, .ref md, .ref mf, .ref mr])), (ma, .inl (cI, 40, .inl b1)), (mo, .inl (cI, 81, .inl b2)), (mg, .inl (cI, 81, .inl fr)), (mk, .inl (cI, 40, .inl fk)), (mn, .inl (cZ, 40, .inl ft))] := hD
  have hb1 : b1 = upd fa p1.toInt.toNat (nI r_9.toInt.toNat) := by rw [eb1, ← kt_nIof (x := r_9) (by omega)]; rfl
  have hb2 : b2 = upd (upd fo (fa p1.toNatClampNeg).toInt.toNat (-1)) r_9.toInt.toNat (nI p1.toInt.toNat) := by rw [eb2, eb0, ← kt_nIof (x := p1) (by omega), ea_23]; rfl
  have hcb : kt_con b2 b1 P_ := by
    rw [hb1, hb2]
    exact hco.move (by omega) (kt_nIof (x := fa p1.toInt.toNat) (by exact hon)) (by omega)
  have hfb : kt_r b1 P_ (-1) (ml.toInt * mw.toInt - 1) := by
    rw [eb1]
    exact hfa.upd (by omega) (by omega)
  refine lv_iconst (v := 0) hx hb dX11_make_42 (by decide) ?_
  refine lv_istore (lv' := [(5, .int 0), (4, .int r_9), (0, .ref mx), (1, .int p1), (2, .int p2), (3, .int p3)]) hx hb dX11_make_43 hl (by decide) rfl (fun ls hl => ?_)
  refine kt_loop (σ := Nat × (Nat → Int32)) 45 7 (fun u => [(mx, .inr (11, [.int ml, .int mw, .ref ms, .int mgl, .int mhd, .int mre, .int mag, .int mkt, .int mho, .int mpc, .int msd, .int mki, .ref mk, .ref ma, .ref mo, .ref mg, .ref mm, .ref mt, .int mdn, .int mun, .ref mn, .int mtk, .ref me, .ref mq, .int msv, .ref mwo, .ref md, .ref mf, .ref mr])), (ma, .inl (cI, 40, .inl b1)), (mo, .inl (cI, 81, .inl b2)), (mg, .inl (cI, 81, .inl fr)), (mk, .inl (cI, 40, .inl fk)), (mn, .inl (cZ, 40, .inl u.2))]) (fun u => [(5, .int (nI u.1)), (4, .int r_9), (0, .ref mx), (1, .int p1), (2, .int p2), (3, .int p3)]) (fun n u => (u.1 ≤ 40 ∧ 40 < u.1 + n) ∧ ∀ j, j < u.1 → u.2 j = 0) (fun u h => by omega) (fun n_45 ih_45 u hI H locs hP hD hS ls hl => ?_) (41) (0, ft) (by show (0 ≤ 40 ∧ 40 < 0 + 41) ∧ ∀ j, j < 0 → ft j = 0; exact ⟨by decide, fun j h => absurd h (Nat.not_lt_zero j)⟩) hP hD hS (lv_sub hl [0, 1, 2, 3, 4, 5] rfl)
  obtain ⟨k, z⟩ := u
  have hP : va_P D vwCl [(mx, .inr (11, [.int ml, .int mw, .ref ms, .int mgl, .int mhd, .int mre, .int mag, .int mkt, .int mho, .int mpc, .int msd, .int mki, .ref mk, .ref ma, .ref mo, .ref mg, .ref mm, .ref mt, .int mdn, .int mun, .ref mn, .int mtk, .ref me, .ref mq, .int msv, .ref mwo, .ref md, .ref mf, .ref mr])), (ma, .inl (cI, 40, .inl b1)), (mo, .inl (cI, 81, .inl b2)), (mg, .inl (cI, 81, .inl fr)), (mk, .inl (cI, 40, .inl fk)), (mn, .inl (cZ, 40, .inl z))] H := hP
  have hD : va_D A [(mx, .inr (11, [.int ml, .int mw, .ref ms, .int mgl, .int mhd, .int mre, .int mag, .int mkt, .int mho, .int mpc, .int msd, .int mki, .ref mk, .ref ma, .ref mo, .ref mg, .ref mm, .ref mt, .int mdn, .int mun, .ref mn, .int mtk, .ref me, .ref mq, .int msv, .ref mwo, .ref md, .ref mf, .ref mr])), (ma, .inl (cI, 40, .inl b1)), (mo, .inl (cI, 81, .inl b2)), (mg, .inl (cI, 81, .inl fr)), (mk, .inl (cI, 40, .inl fk)), (mn, .inl (cZ, 40, .inl z))] := hD
  have hl : lv_has ls 7 [(5, .int (nI k)), (4, .int r_9), (0, .ref mx), (1, .int p1), (2, .int p2), (3, .int p3)] := hl
  have hI : (k ≤ 40 ∧ 40 < k + (n_45 + 1)) ∧ ∀ j, j < k → z j = 0 := hI
  obtain ⟨hkb, hz⟩ := hI
  have hk0 := kt_nI (n := k) (by omega)
  refine lv_iload hx hb dX11_make_45 (lv_at hl 0 rfl) ?_
  refine lv_aload_n hx hb dX11_make_47 rfl (lv_at hl 2 rfl) ?_
  refine va_get (D := D) (ci := 11) (C := RX11) (T := TX11) (N := 29) hx hb hts iw_X11_make_X11 hown hK hP 0 rfl rfl 9 (by decide) (hts (.fieldLink RX11 103 "KingTableModel" "pieces" "I") (kt_wp_X11_make__X11_make_r1 kt_wm2)) (fun _ h9 => h9) rfl dX11_make_48 ?_
  refine lv_icmp_ge (tgt := 68) hx hb dX11_make_51 (by decide) (fun c_51 => ?_) (fun c_51 => ?_)
  · have d_51 := c_51
    simp only [kt_lt, kt_le, kt_eq, kt_c0, kt_c1, kt_c2, kt_c3, kt_c4, kt_c8, kt_c9, kt_cm1, kt_c81, kt_c40, kt_c7, kt_c5, kt_c6, kt_c512, kt_c10, kt_c10000] at d_51
    refine lv_aload_n hx hb dX11_make_68 rfl (lv_at hl 2 rfl) ?_
    refine lv_iconst (v := 0) hx hb dX11_make_69 (by decide) ?_
    refine va_put (D := D) (ci := 11) (v := .int 0) (ty := .int) (C := RX11) (T := TX11) (N := 29) hx hb hts iw_X11_make_X11 tyX11 tyX11_ok nmX11 hown hK hP hD hS 0 rfl rfl 21 (by decide) (hts (.fieldLink RX11 120 "KingTableModel" "tookMany" "I") (kt_wp_X11_make__X11_make_r1 kt_wm4)) (fun _ h9 => h9) rfl (by decide +kernel) rfl rfl (Nat.le_of_ble_eq_true rfl) dX11_make_70 (fun H locs hP hD hS => ?_)
    have hP : va_P D vwCl [(mx, .inr (11, [.int ml, .int mw, .ref ms, .int mgl, .int mhd, .int mre, .int mag, .int mkt, .int mho, .int mpc, .int msd, .int mki, .ref mk, .ref ma, .ref mo, .ref mg, .ref mm, .ref mt, .int mdn, .int mun, .ref mn, .int 0, .ref me, .ref mq, .int msv, .ref mwo, .ref md, .ref mf, .ref mr])), (ma, .inl (cI, 40, .inl b1)), (mo, .inl (cI, 81, .inl b2)), (mg, .inl (cI, 81, .inl fr)), (mk, .inl (cI, 40, .inl fk)), (mn, .inl (cZ, 40, .inl z))] H := hP
    have hD : va_D A [(mx, .inr (11, [.int ml, .int mw, .ref ms, .int mgl, .int mhd, .int mre, .int mag, .int mkt, .int mho, .int mpc, .int msd, .int mki, .ref mk, .ref ma, .ref mo, .ref mg, .ref mm, .ref mt, .int mdn, .int mun, .ref mn, .int 0, .ref me, .ref mq, .int msv, .ref mwo, .ref md, .ref mf, .ref mr])), (ma, .inl (cI, 40, .inl b1)), (mo, .inl (cI, 81, .inl b2)), (mg, .inl (cI, 81, .inl fr)), (mk, .inl (cI, 40, .inl fk)), (mn, .inl (cZ, 40, .inl z))] := hD
    refine lv_iconst (v := 0) hx hb dX11_make_73 (by decide) ?_
    refine lv_istore (lv' := [(5, .int 0), (4, .int r_9), (0, .ref mx), (1, .int p1), (2, .int p2), (3, .int p3)]) hx hb dX11_make_74 hl (by decide) rfl (fun ls hl => ?_)
    refine kt_loop (σ := Nat × (Nat → Int32)) 76 7 (fun u => [(mx, .inr (11, [.int ml, .int mw, .ref ms, .int mgl, .int mhd, .int mre, .int mag, .int mkt, .int mho, .int mpc, .int msd, .int mki, .ref mk, .ref ma, .ref mo, .ref mg, .ref mm, .ref mt, .int mdn, .int mun, .ref mn, .int 0, .ref me, .ref mq, .int msv, .ref mwo, .ref md, .ref mf, .ref mr])), (ma, .inl (cI, 40, .inl b1)), (mo, .inl (cI, 81, .inl b2)), (mg, .inl (cI, 81, .inl fr)), (mk, .inl (cI, 40, .inl fk)), (mn, .inl (cZ, 40, .inl u.2))]) (fun u => [(5, .int (nI u.1)), (4, .int r_9), (0, .ref mx), (1, .int p1), (2, .int p2), (3, .int p3)]) (fun n u => (u.1 ≤ 4 ∧ 4 < u.1 + n) ∧ ∀ j, j < P_ → ¬ u.2 j = 0 → 0 ≤ (b1 j).toInt) (fun u h => by omega) (fun n_76 ih_76 u hI H locs hP hD hS ls hl => ?_) (5) (0, z) (by show (0 ≤ 4 ∧ 4 < 0 + 5) ∧ ∀ j, j < P_ → ¬ z j = 0 → 0 ≤ (b1 j).toInt; exact ⟨by decide, fun j hj hne => absurd (hz j (by omega)) hne⟩) hP hD hS (lv_sub hl [0, 1, 2, 3, 4, 5] rfl)
    obtain ⟨w, y⟩ := u
    have hP : va_P D vwCl [(mx, .inr (11, [.int ml, .int mw, .ref ms, .int mgl, .int mhd, .int mre, .int mag, .int mkt, .int mho, .int mpc, .int msd, .int mki, .ref mk, .ref ma, .ref mo, .ref mg, .ref mm, .ref mt, .int mdn, .int mun, .ref mn, .int 0, .ref me, .ref mq, .int msv, .ref mwo, .ref md, .ref mf, .ref mr])), (ma, .inl (cI, 40, .inl b1)), (mo, .inl (cI, 81, .inl b2)), (mg, .inl (cI, 81, .inl fr)), (mk, .inl (cI, 40, .inl fk)), (mn, .inl (cZ, 40, .inl y))] H := hP
    have hD : va_D A [(mx, .inr (11, [.int ml, .int mw, .ref ms, .int mgl, .int mhd, .int mre, .int mag, .int mkt, .int mho, .int mpc, .int msd, .int mki, .ref mk, .ref ma, .ref mo, .ref mg, .ref mm, .ref mt, .int mdn, .int mun, .ref mn, .int 0, .ref me, .ref mq, .int msv, .ref mwo, .ref md, .ref mf, .ref mr])), (ma, .inl (cI, 40, .inl b1)), (mo, .inl (cI, 81, .inl b2)), (mg, .inl (cI, 81, .inl fr)), (mk, .inl (cI, 40, .inl fk)), (mn, .inl (cZ, 40, .inl y))] := hD
    have hl : lv_has ls 7 [(5, .int (nI w)), (4, .int r_9), (0, .ref mx), (1, .int p1), (2, .int p2), (3, .int p3)] := hl
    have hI : (w ≤ 4 ∧ 4 < w + (n_76 + 1)) ∧ ∀ j, j < P_ → ¬ y j = 0 → 0 ≤ (b1 j).toInt := hI
    obtain ⟨hwb, hy⟩ := hI
    have hw0 := kt_nI (n := w) (by omega)
    refine lv_iload hx hb dX11_make_76 (lv_at hl 0 rfl) ?_
    refine lv_iconst (v := 4) hx hb dX11_make_78 (by decide) ?_
    refine lv_icmp_ge (tgt := 171) hx hb dX11_make_79 (by decide) (fun c_79 => ?_) (fun c_79 => ?_)
    · have d_79 := c_79
      simp only [kt_lt, kt_le, kt_eq, kt_c0, kt_c1, kt_c2, kt_c3, kt_c4, kt_c8, kt_c9, kt_cm1, kt_c81, kt_c40, kt_c7, kt_c5, kt_c6, kt_c512, kt_c10, kt_c10000] at d_79
      refine lv_iconst (v := 0) hx hb dX11_make_171 (by decide) ?_
      refine lv_istore (lv' := [(5, .int 0), (4, .int r_9), (0, .ref mx), (1, .int p1), (2, .int p2), (3, .int p3)]) hx hb dX11_make_172 hl (by decide) rfl (fun ls hl => ?_)
      refine kt_loop (σ := Nat × Int32 × (Nat → Int32) × (Nat → Int32)) 174 7 (fun u => [(mx, .inr (11, [.int ml, .int mw, .ref ms, .int mgl, .int mhd, .int mre, .int mag, .int mkt, .int mho, .int mpc, .int msd, .int mki, .ref mk, .ref ma, .ref mo, .ref mg, .ref mm, .ref mt, .int mdn, .int mun, .ref mn, .int u.2.1, .ref me, .ref mq, .int msv, .ref mwo, .ref md, .ref mf, .ref mr])), (ma, .inl (cI, 40, .inl u.2.2.1)), (mo, .inl (cI, 81, .inl u.2.2.2)), (mg, .inl (cI, 81, .inl fr)), (mk, .inl (cI, 40, .inl fk)), (mn, .inl (cZ, 40, .inl y))]) (fun u => [(5, .int (nI u.1)), (4, .int r_9), (0, .ref mx), (1, .int p1), (2, .int p2), (3, .int p3)]) (fun n u => (u.1 ≤ 40 ∧ 40 < u.1 + n) ∧ kt_r u.2.2.1 P_ (-1) (ml.toInt * mw.toInt - 1) ∧ kt_con u.2.2.2 u.2.2.1 P_ ∧ ∀ j, u.1 ≤ j → j < P_ → ¬ y j = 0 → 0 ≤ (u.2.2.1 j).toInt) (fun u h => by omega) (fun n_174 ih_174 u hI H locs hP hD hS ls hl => ?_) (41) (0, (0 : Int32), b1, b2) (by show (0 ≤ 40 ∧ 40 < 0 + 41) ∧ kt_r b1 P_ (-1) (ml.toInt * mw.toInt - 1) ∧ kt_con b2 b1 P_ ∧ ∀ j, 0 ≤ j → j < P_ → ¬ y j = 0 → 0 ≤ (b1 j).toInt; exact ⟨by decide, hfb, hcb, fun j _ hj hne => hy j hj hne⟩) hP hD hS (lv_sub hl [0, 1, 2, 3, 4, 5] rfl)
      obtain ⟨i, tk, g1, g2⟩ := u
      have hP : va_P D vwCl [(mx, .inr (11, [.int ml, .int mw, .ref ms, .int mgl, .int mhd, .int mre, .int mag, .int mkt, .int mho, .int mpc, .int msd, .int mki, .ref mk, .ref ma, .ref mo, .ref mg, .ref mm, .ref mt, .int mdn, .int mun, .ref mn, .int tk, .ref me, .ref mq, .int msv, .ref mwo, .ref md, .ref mf, .ref mr])), (ma, .inl (cI, 40, .inl g1)), (mo, .inl (cI, 81, .inl g2)), (mg, .inl (cI, 81, .inl fr)), (mk, .inl (cI, 40, .inl fk)), (mn, .inl (cZ, 40, .inl y))] H := hP
      have hD : va_D A [(mx, .inr (11, [.int ml, .int mw, .ref ms, .int mgl, .int mhd, .int mre, .int mag, .int mkt, .int mho, .int mpc, .int msd, .int mki, .ref mk, .ref ma, .ref mo, .ref mg, .ref mm, .ref mt, .int mdn, .int mun, .ref mn, .int tk, .ref me, .ref mq, .int msv, .ref mwo, .ref md, .ref mf, .ref mr])), (ma, .inl (cI, 40, .inl g1)), (mo, .inl (cI, 81, .inl g2)), (mg, .inl (cI, 81, .inl fr)), (mk, .inl (cI, 40, .inl fk)), (mn, .inl (cZ, 40, .inl y))] := hD
      have hl : lv_has ls 7 [(5, .int (nI i)), (4, .int r_9), (0, .ref mx), (1, .int p1), (2, .int p2), (3, .int p3)] := hl
      have hI : (i ≤ 40 ∧ 40 < i + (n_174 + 1)) ∧ kt_r g1 P_ (-1) (ml.toInt * mw.toInt - 1) ∧ kt_con g2 g1 P_ ∧ ∀ j, i ≤ j → j < P_ → ¬ y j = 0 → 0 ≤ (g1 j).toInt := hI
      obtain ⟨hib, hfg, hcg, hyg⟩ := hI
      have hi0 := kt_nI (n := i) (by omega)
      refine lv_iload hx hb dX11_make_174 (lv_at hl 0 rfl) ?_
      refine lv_aload_n hx hb dX11_make_176 rfl (lv_at hl 2 rfl) ?_
      refine va_get (D := D) (ci := 11) (C := RX11) (T := TX11) (N := 29) hx hb hts iw_X11_make_X11 hown hK hP 0 rfl rfl 9 (by decide) (hts (.fieldLink RX11 103 "KingTableModel" "pieces" "I") (kt_wp_X11_make__X11_make_r1 kt_wm2)) (fun _ h9 => h9) rfl dX11_make_177 ?_
      refine lv_icmp_ge (tgt := 233) hx hb dX11_make_180 (by decide) (fun c_180 => ?_) (fun c_180 => ?_)
      · have d_180 := c_180
        simp only [kt_lt, kt_le, kt_eq, kt_c0, kt_c1, kt_c2, kt_c3, kt_c4, kt_c8, kt_c9, kt_cm1, kt_c81, kt_c40, kt_c7, kt_c5, kt_c6, kt_c512, kt_c10, kt_c10000] at d_180
        refine lv_aload_n hx hb dX11_make_233 rfl (lv_at hl 2 rfl) ?_
        refine lv_iconst (v := 1) hx hb dX11_make_234 (by decide) ?_
        refine lv_aload_n hx hb dX11_make_235 rfl (lv_at hl 2 rfl) ?_
        refine va_get (D := D) (ci := 11) (C := RX11) (T := TX11) (N := 29) hx hb hts iw_X11_make_X11 hown hK hP 0 rfl rfl 10 (by decide) (hts (.fieldLink RX11 126 "KingTableModel" "side" "I") (kt_wp_X11_make__X11_make_r1 kt_wm5)) (fun _ h9 => h9) rfl dX11_make_236 ?_
        refine lv_isub hx hb dX11_make_239 ?_
        refine lv_topi (fun t_239 et_239 => ?_)
        first | have hk_239 := kt_subx et_239 (by first | omega | (simp only [kt_c0, kt_c1, kt_c2, kt_c3, kt_c4, kt_c8, kt_c9, kt_cm1, kt_c81, kt_c40, kt_c7, kt_c5, kt_c6, kt_c512, kt_c10, kt_c10000]; omega)) (by first | omega | (simp only [kt_c0, kt_c1, kt_c2, kt_c3, kt_c4, kt_c8, kt_c9, kt_cm1, kt_c81, kt_c40, kt_c7, kt_c5, kt_c6, kt_c512, kt_c10, kt_c10000]; omega)) | obtain ⟨k_239, hk_239, hm_239, hM_239⟩ := kt_subk et_239
        try simp only [kt_c0, kt_c1, kt_c2, kt_c3, kt_c4, kt_c8, kt_c9, kt_cm1, kt_c81, kt_c40, kt_c7, kt_c5, kt_c6, kt_c512, kt_c10, kt_c10000] at hk_239
        refine va_put (D := D) (ci := 11) (v := .int t_239) (ty := .int) (C := RX11) (T := TX11) (N := 29) hx hb hts iw_X11_make_X11 tyX11 tyX11_ok nmX11 hown hK hP hD hS 0 rfl rfl 10 (by decide) (hts (.fieldLink RX11 126 "KingTableModel" "side" "I") (kt_wp_X11_make__X11_make_r1 kt_wm5)) (fun _ h9 => h9) rfl (by decide +kernel) rfl rfl (Nat.le_of_ble_eq_true rfl) dX11_make_240 (fun H locs hP hD hS => ?_)
        have hP : va_P D vwCl [(mx, .inr (11, [.int ml, .int mw, .ref ms, .int mgl, .int mhd, .int mre, .int mag, .int mkt, .int mho, .int mpc, .int t_239, .int mki, .ref mk, .ref ma, .ref mo, .ref mg, .ref mm, .ref mt, .int mdn, .int mun, .ref mn, .int tk, .ref me, .ref mq, .int msv, .ref mwo, .ref md, .ref mf, .ref mr])), (ma, .inl (cI, 40, .inl g1)), (mo, .inl (cI, 81, .inl g2)), (mg, .inl (cI, 81, .inl fr)), (mk, .inl (cI, 40, .inl fk)), (mn, .inl (cZ, 40, .inl y))] H := hP
        have hD : va_D A [(mx, .inr (11, [.int ml, .int mw, .ref ms, .int mgl, .int mhd, .int mre, .int mag, .int mkt, .int mho, .int mpc, .int t_239, .int mki, .ref mk, .ref ma, .ref mo, .ref mg, .ref mm, .ref mt, .int mdn, .int mun, .ref mn, .int tk, .ref me, .ref mq, .int msv, .ref mwo, .ref md, .ref mf, .ref mr])), (ma, .inl (cI, 40, .inl g1)), (mo, .inl (cI, 81, .inl g2)), (mg, .inl (cI, 81, .inl fr)), (mk, .inl (cI, 40, .inl fk)), (mn, .inl (cZ, 40, .inl y))] := hD
        exact kt_rv (g1, g2, y, tk, t_239) hx hb hr hlk hS dX11_make_243 hP hD (by show kt_r g1 P_ (-1) (ml.toInt * mw.toInt - 1) ∧ kt_con g2 g1 P_ ∧ 0 ≤ t_239.toInt ∧ t_239.toInt ≤ 1; exact ⟨hfg, hcg, by omega⟩)
      · have d_180 := c_180
        simp only [kt_lt, kt_le, kt_eq, kt_c0, kt_c1, kt_c2, kt_c3, kt_c4, kt_c8, kt_c9, kt_cm1, kt_c81, kt_c40, kt_c7, kt_c5, kt_c6, kt_c512, kt_c10, kt_c10000] at d_180
        refine lv_aload_n hx hb dX11_make_183 rfl (lv_at hl 2 rfl) ?_
        refine va_get (D := D) (ci := 11) (C := RX11) (T := TX11) (N := 29) hx hb hts iw_X11_make_X11 hown hK hP 0 rfl rfl 20 (by decide) (hts (.fieldLink RX11 47 "KingTableModel" "taken" "[Z") (kt_wp_X11_make__X11_make_r1 kt_wm3)) (fun _ h9 => h9) rfl dX11_make_184 ?_
        refine lv_iload hx hb dX11_make_187 (lv_at hl 0 rfl) ?_
        have hi_6 : vp_in (nI i) 40 := by exact kt_in (by omega) (by omega)
        refine va_zald hx hb hK hP 5 1 rfl rfl hi_6 dX11_make_189 ?_
        refine lv_topi (fun a_189 ea_189 => ?_)
        refine lv_if_ne (tgt := 196) hx hb dX11_make_190 (by decide) (fun c_190 => ?_) (fun c_190 => ?_)
        · have d_190 := c_190
          simp only [kt_lt, kt_le, kt_eq, kt_c0, kt_c1, kt_c2, kt_c3, kt_c4, kt_c8, kt_c9, kt_cm1, kt_c81, kt_c40, kt_c7, kt_c5, kt_c6, kt_c512, kt_c10, kt_c10000] at d_190
          have hg6 := hyg i (Nat.le_refl i) (by omega) (by rw [← nI_clamp (n := i) (by omega), ← ea_189]; exact c_190)
          have hr6 := hfg i (by omega)
          refine lv_aload_n hx hb dX11_make_196 rfl (lv_at hl 2 rfl) ?_
          refine va_get (D := D) (ci := 11) (C := RX11) (T := TX11) (N := 29) hx hb hts iw_X11_make_X11 hown hK hP 0 rfl rfl 14 (by decide) (hts (.fieldLink RX11 33 "KingTableModel" "on" "[I") (kt_wp_X11_make__X11_make_r1 kt_wm1)) (fun _ h9 => h9) rfl dX11_make_197 ?_
          refine lv_aload_n hx hb dX11_make_200 rfl (lv_at hl 2 rfl) ?_
          refine va_get (D := D) (ci := 11) (C := RX11) (T := TX11) (N := 29) hx hb hts iw_X11_make_X11 hown hK hP 0 rfl rfl 13 (by decide) (hts (.fieldLink RX11 30 "KingTableModel" "at" "[I") (kt_wp_X11_make__X11_make_r1 kt_wm0)) (fun _ h9 => h9) rfl dX11_make_201 ?_
          refine lv_iload hx hb dX11_make_204 (lv_at hl 0 rfl) ?_
          have hi_7 : vp_in (nI i) 40 := by exact kt_in (by omega) (by omega)
          refine va_iald hx hb hK hP 1 0 rfl rfl hi_7 dX11_make_206 ?_
          refine lv_topi (fun a_206 ea_206 => ?_)
          rw [nI_clamp (by omega)] at ea_206
          have hr206 := congrArg Int32.toInt ea_206
          refine lv_iconst (v := (-1)) hx hb dX11_make_207 (by decide) ?_
          have hi_8 : vp_in a_206 81 := by exact kt_in (by omega) (by omega)
          refine va_iast hx hb hK hP hD hS 2 0 rfl rfl hi_8 dX11_make_208 (fun H locs hP hD hS => ?_)
          have hP : va_P D vwCl [(mx, .inr (11, [.int ml, .int mw, .ref ms, .int mgl, .int mhd, .int mre, .int mag, .int mkt, .int mho, .int mpc, .int msd, .int mki, .ref mk, .ref ma, .ref mo, .ref mg, .ref mm, .ref mt, .int mdn, .int mun, .ref mn, .int tk, .ref me, .ref mq, .int msv, .ref mwo, .ref md, .ref mf, .ref mr])), (ma, .inl (cI, 40, .inl g1)), (mo, .inl (cI, 81, .inl (upd g2 a_206.toNatClampNeg (-1)))), (mg, .inl (cI, 81, .inl fr)), (mk, .inl (cI, 40, .inl fk)), (mn, .inl (cZ, 40, .inl y))] H := hP
          have hD : va_D A [(mx, .inr (11, [.int ml, .int mw, .ref ms, .int mgl, .int mhd, .int mre, .int mag, .int mkt, .int mho, .int mpc, .int msd, .int mki, .ref mk, .ref ma, .ref mo, .ref mg, .ref mm, .ref mt, .int mdn, .int mun, .ref mn, .int tk, .ref me, .ref mq, .int msv, .ref mwo, .ref md, .ref mf, .ref mr])), (ma, .inl (cI, 40, .inl g1)), (mo, .inl (cI, 81, .inl (upd g2 a_206.toNatClampNeg (-1)))), (mg, .inl (cI, 81, .inl fr)), (mk, .inl (cI, 40, .inl fk)), (mn, .inl (cZ, 40, .inl y))] := hD
          refine lv_aload_n hx hb dX11_make_209 rfl (lv_at hl 2 rfl) ?_
          refine va_get (D := D) (ci := 11) (C := RX11) (T := TX11) (N := 29) hx hb hts iw_X11_make_X11 hown hK hP 0 rfl rfl 13 (by decide) (hts (.fieldLink RX11 30 "KingTableModel" "at" "[I") (kt_wp_X11_make__X11_make_r1 kt_wm0)) (fun _ h9 => h9) rfl dX11_make_210 ?_
          refine lv_iload hx hb dX11_make_213 (lv_at hl 0 rfl) ?_
          refine lv_iconst (v := (-1)) hx hb dX11_make_215 (by decide) ?_
          have hi_9 : vp_in (nI i) 40 := by exact kt_in (by omega) (by omega)
          refine va_iast hx hb hK hP hD hS 1 0 rfl rfl hi_9 dX11_make_216 (fun H locs hP hD hS => ?_)
          have hP : va_P D vwCl [(mx, .inr (11, [.int ml, .int mw, .ref ms, .int mgl, .int mhd, .int mre, .int mag, .int mkt, .int mho, .int mpc, .int msd, .int mki, .ref mk, .ref ma, .ref mo, .ref mg, .ref mm, .ref mt, .int mdn, .int mun, .ref mn, .int tk, .ref me, .ref mq, .int msv, .ref mwo, .ref md, .ref mf, .ref mr])), (ma, .inl (cI, 40, .inl (upd g1 (nI i).toNatClampNeg (-1)))), (mo, .inl (cI, 81, .inl (upd g2 a_206.toNatClampNeg (-1)))), (mg, .inl (cI, 81, .inl fr)), (mk, .inl (cI, 40, .inl fk)), (mn, .inl (cZ, 40, .inl y))] H := hP
          have hD : va_D A [(mx, .inr (11, [.int ml, .int mw, .ref ms, .int mgl, .int mhd, .int mre, .int mag, .int mkt, .int mho, .int mpc, .int msd, .int mki, .ref mk, .ref ma, .ref mo, .ref mg, .ref mm, .ref mt, .int mdn, .int mun, .ref mn, .int tk, .ref me, .ref mq, .int msv, .ref mwo, .ref md, .ref mf, .ref mr])), (ma, .inl (cI, 40, .inl (upd g1 (nI i).toNatClampNeg (-1)))), (mo, .inl (cI, 81, .inl (upd g2 a_206.toNatClampNeg (-1)))), (mg, .inl (cI, 81, .inl fr)), (mk, .inl (cI, 40, .inl fk)), (mn, .inl (cZ, 40, .inl y))] := hD
          refine lv_aload_n hx hb dX11_make_217 rfl (lv_at hl 2 rfl) ?_
          refine lv_dup hx hb dX11_make_218 rfl ?_
          refine va_get (D := D) (ci := 11) (C := RX11) (T := TX11) (N := 29) hx hb hts iw_X11_make_X11 hown hK hP 0 rfl rfl 21 (by decide) (hts (.fieldLink RX11 120 "KingTableModel" "tookMany" "I") (kt_wp_X11_make__X11_make_r1 kt_wm4)) (fun _ h9 => h9) rfl dX11_make_219 ?_
          refine lv_iconst (v := 1) hx hb dX11_make_222 (by decide) ?_
          refine lv_iadd hx hb dX11_make_223 ?_
          refine lv_topi (fun t_223 et_223 => ?_)
          first | have hk_223 := kt_addx et_223 (by first | omega | (simp only [kt_c0, kt_c1, kt_c2, kt_c3, kt_c4, kt_c8, kt_c9, kt_cm1, kt_c81, kt_c40, kt_c7, kt_c5, kt_c6, kt_c512, kt_c10, kt_c10000]; omega)) (by first | omega | (simp only [kt_c0, kt_c1, kt_c2, kt_c3, kt_c4, kt_c8, kt_c9, kt_cm1, kt_c81, kt_c40, kt_c7, kt_c5, kt_c6, kt_c512, kt_c10, kt_c10000]; omega)) | obtain ⟨k_223, hk_223, hm_223, hM_223⟩ := kt_addk et_223
          try simp only [kt_c0, kt_c1, kt_c2, kt_c3, kt_c4, kt_c8, kt_c9, kt_cm1, kt_c81, kt_c40, kt_c7, kt_c5, kt_c6, kt_c512, kt_c10, kt_c10000] at hk_223
          refine va_put (D := D) (ci := 11) (v := .int t_223) (ty := .int) (C := RX11) (T := TX11) (N := 29) hx hb hts iw_X11_make_X11 tyX11 tyX11_ok nmX11 hown hK hP hD hS 0 rfl rfl 21 (by decide) (hts (.fieldLink RX11 120 "KingTableModel" "tookMany" "I") (kt_wp_X11_make__X11_make_r1 kt_wm4)) (fun _ h9 => h9) rfl (by decide +kernel) rfl rfl (Nat.le_of_ble_eq_true rfl) dX11_make_224 (fun H locs hP hD hS => ?_)
          have hP : va_P D vwCl [(mx, .inr (11, [.int ml, .int mw, .ref ms, .int mgl, .int mhd, .int mre, .int mag, .int mkt, .int mho, .int mpc, .int msd, .int mki, .ref mk, .ref ma, .ref mo, .ref mg, .ref mm, .ref mt, .int mdn, .int mun, .ref mn, .int t_223, .ref me, .ref mq, .int msv, .ref mwo, .ref md, .ref mf, .ref mr])), (ma, .inl (cI, 40, .inl (upd g1 (nI i).toNatClampNeg (-1)))), (mo, .inl (cI, 81, .inl (upd g2 a_206.toNatClampNeg (-1)))), (mg, .inl (cI, 81, .inl fr)), (mk, .inl (cI, 40, .inl fk)), (mn, .inl (cZ, 40, .inl y))] H := hP
          have hD : va_D A [(mx, .inr (11, [.int ml, .int mw, .ref ms, .int mgl, .int mhd, .int mre, .int mag, .int mkt, .int mho, .int mpc, .int msd, .int mki, .ref mk, .ref ma, .ref mo, .ref mg, .ref mm, .ref mt, .int mdn, .int mun, .ref mn, .int t_223, .ref me, .ref mq, .int msv, .ref mwo, .ref md, .ref mf, .ref mr])), (ma, .inl (cI, 40, .inl (upd g1 (nI i).toNatClampNeg (-1)))), (mo, .inl (cI, 81, .inl (upd g2 a_206.toNatClampNeg (-1)))), (mg, .inl (cI, 81, .inl fr)), (mk, .inl (cI, 40, .inl fk)), (mn, .inl (cZ, 40, .inl y))] := hD
          refine lv_iinc (v := nI (i + 1)) (lv' := [(5, .int (nI (i + 1))), (4, .int r_9), (0, .ref mx), (1, .int p1), (2, .int p2), (3, .int p3)]) hx hb dX11_make_227 hl (k := 0) rfl (nI_1 _) (by decide) rfl (fun ls hl => ?_)
          refine lv_goto (tgt := 174) hx hb dX11_make_230 (by decide) ?_
          exact ih_174 ((i + 1), t_223, (upd g1 (nI i).toNatClampNeg (-1)), (upd g2 a_206.toNatClampNeg (-1))) (by show ((i + 1) ≤ 40 ∧ 40 < (i + 1) + n_174) ∧ kt_r (upd g1 (nI i).toNatClampNeg (-1)) P_ (-1) (ml.toInt * mw.toInt - 1) ∧ kt_con (upd g2 a_206.toNatClampNeg (-1)) (upd g1 (nI i).toNatClampNeg (-1)) P_ ∧ ∀ j, (i + 1) ≤ j → j < P_ → ¬ y j = 0 → 0 ≤ ((upd g1 (nI i).toNatClampNeg (-1)) j).toInt; first | exact ⟨by omega, hfg, hcg, fun j hj => hyg j (by omega)⟩ | (refine ⟨by omega, by rw [nI_clamp (by omega)]; exact hfg.upd (by decide) (by rw [kt_cm1]; omega), by rw [nI_clamp (by omega)]; exact hcg.drop (a := a_206.toInt.toNat) (by rw [← kt_nIof (x := a_206) (by omega), ea_206]) (by omega), fun j hj hj2 hne => by rw [nI_clamp (by omega), pk_un (by omega)]; exact hyg j (by omega) hj2 hne⟩)) H _ hP hD hS ls (lv_sub hl [0, 1, 2, 3, 4, 5] rfl)
        · have d_190 := c_190
          simp only [kt_lt, kt_le, kt_eq, kt_c0, kt_c1, kt_c2, kt_c3, kt_c4, kt_c8, kt_c9, kt_cm1, kt_c81, kt_c40, kt_c7, kt_c5, kt_c6, kt_c512, kt_c10, kt_c10000] at d_190
          refine lv_goto (tgt := 227) hx hb dX11_make_193 (by decide) ?_
          refine lv_iinc (v := nI (i + 1)) (lv' := [(5, .int (nI (i + 1))), (4, .int r_9), (0, .ref mx), (1, .int p1), (2, .int p2), (3, .int p3)]) hx hb dX11_make_227 hl (k := 0) rfl (nI_1 _) (by decide) rfl (fun ls hl => ?_)
          refine lv_goto (tgt := 174) hx hb dX11_make_230 (by decide) ?_
          exact ih_174 ((i + 1), tk, g1, g2) (by show ((i + 1) ≤ 40 ∧ 40 < (i + 1) + n_174) ∧ kt_r g1 P_ (-1) (ml.toInt * mw.toInt - 1) ∧ kt_con g2 g1 P_ ∧ ∀ j, (i + 1) ≤ j → j < P_ → ¬ y j = 0 → 0 ≤ (g1 j).toInt; first | exact ⟨by omega, hfg, hcg, fun j hj => hyg j (by omega)⟩ | (refine ⟨by omega, by rw [nI_clamp (by omega)]; exact hfg.upd (by decide) (by rw [kt_cm1]; omega), by rw [nI_clamp (by omega)]; exact hcg.drop (a := a_206.toInt.toNat) (by rw [← kt_nIof (x := a_206) (by omega), ea_206]) (by omega), fun j hj hj2 hne => by rw [nI_clamp (by omega), pk_un (by omega)]; exact hyg j (by omega) hj2 hne⟩)) H _ hP hD hS ls (lv_sub hl [0, 1, 2, 3, 4, 5] rfl)
    · have d_79 := c_79
      simp only [kt_lt, kt_le, kt_eq, kt_c0, kt_c1, kt_c2, kt_c3, kt_c4, kt_c8, kt_c9, kt_cm1, kt_c81, kt_c40, kt_c7, kt_c5, kt_c6, kt_c512, kt_c10, kt_c10000] at d_79
      refine lv_aload_n hx hb dX11_make_82 rfl (lv_at hl 2 rfl) ?_
      refine lv_iload_n hx hb dX11_make_83 rfl (lv_at hl 3 rfl) ?_
      refine kt_pi (wc := [(mx, .inr (11, [.int ml, .int mw, .ref ms, .int mgl, .int mhd, .int mre, .int mag, .int mkt, .int mho, .int mpc, .int msd, .int mki, .ref mk, .ref ma, .ref mo, .ref mg, .ref mm, .ref mt, .int mdn, .int mun, .ref mn, .int 0, .ref me, .ref mq, .int msv, .ref mwo, .ref md, .ref mf, .ref mr])), (mk, .inl (cI, 40, .inl fk))]) [0, 4] hP hD hS hA rfl (by decide) (fun hPc hDc => va_runV (As := [.int p1]) (rest := []) ⟨hx, hb, hml, hown, hts⟩ (c_X11_takes l D cI cZ cB H.size mx ms mk ma mo mg mm mt mn me mq mwo md mf mr ml mw mgl mhd mre mag mkt mho mpc msd mki mdn mun 0 msv fk p1 (by first | assumption | omega | rfl | decide)) (cwV 1 hts gX11_make_X11_takes rfl rfl rfl (by decide +kernel) ⟨Nat.le_of_ble_eq_true rfl, Nat.le_of_ble_eq_true rfl⟩) (kt_preV hN hK hPc hDc 0 (ci := 11) (q := (RX11, TX11, 29)) rfl rfl) rfl rfl hl.1 rfl (lv_room (Nat.le_of_ble_eq_true rfl)) dX11_make_84 ⟨Nat.le_of_ble_eq_true rfl, Nat.le_of_ble_eq_true rfl⟩) (fun r_84 _ H locs hw_84 hP hS => ?_)
      refine lv_if_eq (tgt := 171) hx hb dX11_make_87 (by decide) (fun c_87 => ?_) (fun c_87 => ?_)
      · have d_87 := c_87
        simp only [kt_lt, kt_le, kt_eq, kt_c0, kt_c1, kt_c2, kt_c3, kt_c4, kt_c8, kt_c9, kt_cm1, kt_c81, kt_c40, kt_c7, kt_c5, kt_c6, kt_c512, kt_c10, kt_c10000] at d_87
        refine lv_iconst (v := 0) hx hb dX11_make_171 (by decide) ?_
        refine lv_istore (lv' := [(5, .int 0), (4, .int r_9), (0, .ref mx), (1, .int p1), (2, .int p2), (3, .int p3)]) hx hb dX11_make_172 hl (by decide) rfl (fun ls hl => ?_)
        refine kt_loop (σ := Nat × Int32 × (Nat → Int32) × (Nat → Int32)) 174 7 (fun u => [(mx, .inr (11, [.int ml, .int mw, .ref ms, .int mgl, .int mhd, .int mre, .int mag, .int mkt, .int mho, .int mpc, .int msd, .int mki, .ref mk, .ref ma, .ref mo, .ref mg, .ref mm, .ref mt, .int mdn, .int mun, .ref mn, .int u.2.1, .ref me, .ref mq, .int msv, .ref mwo, .ref md, .ref mf, .ref mr])), (ma, .inl (cI, 40, .inl u.2.2.1)), (mo, .inl (cI, 81, .inl u.2.2.2)), (mg, .inl (cI, 81, .inl fr)), (mk, .inl (cI, 40, .inl fk)), (mn, .inl (cZ, 40, .inl y))]) (fun u => [(5, .int (nI u.1)), (4, .int r_9), (0, .ref mx), (1, .int p1), (2, .int p2), (3, .int p3)]) (fun n u => (u.1 ≤ 40 ∧ 40 < u.1 + n) ∧ kt_r u.2.2.1 P_ (-1) (ml.toInt * mw.toInt - 1) ∧ kt_con u.2.2.2 u.2.2.1 P_ ∧ ∀ j, u.1 ≤ j → j < P_ → ¬ y j = 0 → 0 ≤ (u.2.2.1 j).toInt) (fun u h => by omega) (fun n_174 ih_174 u hI H locs hP hD hS ls hl => ?_) (41) (0, (0 : Int32), b1, b2) (by show (0 ≤ 40 ∧ 40 < 0 + 41) ∧ kt_r b1 P_ (-1) (ml.toInt * mw.toInt - 1) ∧ kt_con b2 b1 P_ ∧ ∀ j, 0 ≤ j → j < P_ → ¬ y j = 0 → 0 ≤ (b1 j).toInt; exact ⟨by decide, hfb, hcb, fun j _ hj hne => hy j hj hne⟩) hP hD hS (lv_sub hl [0, 1, 2, 3, 4, 5] rfl)
        obtain ⟨i, tk, g1, g2⟩ := u
        have hP : va_P D vwCl [(mx, .inr (11, [.int ml, .int mw, .ref ms, .int mgl, .int mhd, .int mre, .int mag, .int mkt, .int mho, .int mpc, .int msd, .int mki, .ref mk, .ref ma, .ref mo, .ref mg, .ref mm, .ref mt, .int mdn, .int mun, .ref mn, .int tk, .ref me, .ref mq, .int msv, .ref mwo, .ref md, .ref mf, .ref mr])), (ma, .inl (cI, 40, .inl g1)), (mo, .inl (cI, 81, .inl g2)), (mg, .inl (cI, 81, .inl fr)), (mk, .inl (cI, 40, .inl fk)), (mn, .inl (cZ, 40, .inl y))] H := hP
        have hD : va_D A [(mx, .inr (11, [.int ml, .int mw, .ref ms, .int mgl, .int mhd, .int mre, .int mag, .int mkt, .int mho, .int mpc, .int msd, .int mki, .ref mk, .ref ma, .ref mo, .ref mg, .ref mm, .ref mt, .int mdn, .int mun, .ref mn, .int tk, .ref me, .ref mq, .int msv, .ref mwo, .ref md, .ref mf, .ref mr])), (ma, .inl (cI, 40, .inl g1)), (mo, .inl (cI, 81, .inl g2)), (mg, .inl (cI, 81, .inl fr)), (mk, .inl (cI, 40, .inl fk)), (mn, .inl (cZ, 40, .inl y))] := hD
        have hl : lv_has ls 7 [(5, .int (nI i)), (4, .int r_9), (0, .ref mx), (1, .int p1), (2, .int p2), (3, .int p3)] := hl
        have hI : (i ≤ 40 ∧ 40 < i + (n_174 + 1)) ∧ kt_r g1 P_ (-1) (ml.toInt * mw.toInt - 1) ∧ kt_con g2 g1 P_ ∧ ∀ j, i ≤ j → j < P_ → ¬ y j = 0 → 0 ≤ (g1 j).toInt := hI
        obtain ⟨hib, hfg, hcg, hyg⟩ := hI
        have hi0 := kt_nI (n := i) (by omega)
        refine lv_iload hx hb dX11_make_174 (lv_at hl 0 rfl) ?_
        refine lv_aload_n hx hb dX11_make_176 rfl (lv_at hl 2 rfl) ?_
        refine va_get (D := D) (ci := 11) (C := RX11) (T := TX11) (N := 29) hx hb hts iw_X11_make_X11 hown hK hP 0 rfl rfl 9 (by decide) (hts (.fieldLink RX11 103 "KingTableModel" "pieces" "I") (kt_wp_X11_make__X11_make_r1 kt_wm2)) (fun _ h9 => h9) rfl dX11_make_177 ?_
        refine lv_icmp_ge (tgt := 233) hx hb dX11_make_180 (by decide) (fun c_180 => ?_) (fun c_180 => ?_)
        · have d_180 := c_180
          simp only [kt_lt, kt_le, kt_eq, kt_c0, kt_c1, kt_c2, kt_c3, kt_c4, kt_c8, kt_c9, kt_cm1, kt_c81, kt_c40, kt_c7, kt_c5, kt_c6, kt_c512, kt_c10, kt_c10000] at d_180
          refine lv_aload_n hx hb dX11_make_233 rfl (lv_at hl 2 rfl) ?_
          refine lv_iconst (v := 1) hx hb dX11_make_234 (by decide) ?_
          refine lv_aload_n hx hb dX11_make_235 rfl (lv_at hl 2 rfl) ?_
          refine va_get (D := D) (ci := 11) (C := RX11) (T := TX11) (N := 29) hx hb hts iw_X11_make_X11 hown hK hP 0 rfl rfl 10 (by decide) (hts (.fieldLink RX11 126 "KingTableModel" "side" "I") (kt_wp_X11_make__X11_make_r1 kt_wm5)) (fun _ h9 => h9) rfl dX11_make_236 ?_
          refine lv_isub hx hb dX11_make_239 ?_
          refine lv_topi (fun t_239 et_239 => ?_)
          first | have hk_239 := kt_subx et_239 (by first | omega | (simp only [kt_c0, kt_c1, kt_c2, kt_c3, kt_c4, kt_c8, kt_c9, kt_cm1, kt_c81, kt_c40, kt_c7, kt_c5, kt_c6, kt_c512, kt_c10, kt_c10000]; omega)) (by first | omega | (simp only [kt_c0, kt_c1, kt_c2, kt_c3, kt_c4, kt_c8, kt_c9, kt_cm1, kt_c81, kt_c40, kt_c7, kt_c5, kt_c6, kt_c512, kt_c10, kt_c10000]; omega)) | obtain ⟨k_239, hk_239, hm_239, hM_239⟩ := kt_subk et_239
          try simp only [kt_c0, kt_c1, kt_c2, kt_c3, kt_c4, kt_c8, kt_c9, kt_cm1, kt_c81, kt_c40, kt_c7, kt_c5, kt_c6, kt_c512, kt_c10, kt_c10000] at hk_239
          refine va_put (D := D) (ci := 11) (v := .int t_239) (ty := .int) (C := RX11) (T := TX11) (N := 29) hx hb hts iw_X11_make_X11 tyX11 tyX11_ok nmX11 hown hK hP hD hS 0 rfl rfl 10 (by decide) (hts (.fieldLink RX11 126 "KingTableModel" "side" "I") (kt_wp_X11_make__X11_make_r1 kt_wm5)) (fun _ h9 => h9) rfl (by decide +kernel) rfl rfl (Nat.le_of_ble_eq_true rfl) dX11_make_240 (fun H locs hP hD hS => ?_)
          have hP : va_P D vwCl [(mx, .inr (11, [.int ml, .int mw, .ref ms, .int mgl, .int mhd, .int mre, .int mag, .int mkt, .int mho, .int mpc, .int t_239, .int mki, .ref mk, .ref ma, .ref mo, .ref mg, .ref mm, .ref mt, .int mdn, .int mun, .ref mn, .int tk, .ref me, .ref mq, .int msv, .ref mwo, .ref md, .ref mf, .ref mr])), (ma, .inl (cI, 40, .inl g1)), (mo, .inl (cI, 81, .inl g2)), (mg, .inl (cI, 81, .inl fr)), (mk, .inl (cI, 40, .inl fk)), (mn, .inl (cZ, 40, .inl y))] H := hP
          have hD : va_D A [(mx, .inr (11, [.int ml, .int mw, .ref ms, .int mgl, .int mhd, .int mre, .int mag, .int mkt, .int mho, .int mpc, .int t_239, .int mki, .ref mk, .ref ma, .ref mo, .ref mg, .ref mm, .ref mt, .int mdn, .int mun, .ref mn, .int tk, .ref me, .ref mq, .int msv, .ref mwo, .ref md, .ref mf, .ref mr])), (ma, .inl (cI, 40, .inl g1)), (mo, .inl (cI, 81, .inl g2)), (mg, .inl (cI, 81, .inl fr)), (mk, .inl (cI, 40, .inl fk)), (mn, .inl (cZ, 40, .inl y))] := hD
          exact kt_rv (g1, g2, y, tk, t_239) hx hb hr hlk hS dX11_make_243 hP hD (by show kt_r g1 P_ (-1) (ml.toInt * mw.toInt - 1) ∧ kt_con g2 g1 P_ ∧ 0 ≤ t_239.toInt ∧ t_239.toInt ≤ 1; exact ⟨hfg, hcg, by omega⟩)
        · have d_180 := c_180
          simp only [kt_lt, kt_le, kt_eq, kt_c0, kt_c1, kt_c2, kt_c3, kt_c4, kt_c8, kt_c9, kt_cm1, kt_c81, kt_c40, kt_c7, kt_c5, kt_c6, kt_c512, kt_c10, kt_c10000] at d_180
          refine lv_aload_n hx hb dX11_make_183 rfl (lv_at hl 2 rfl) ?_
          refine va_get (D := D) (ci := 11) (C := RX11) (T := TX11) (N := 29) hx hb hts iw_X11_make_X11 hown hK hP 0 rfl rfl 20 (by decide) (hts (.fieldLink RX11 47 "KingTableModel" "taken" "[Z") (kt_wp_X11_make__X11_make_r1 kt_wm3)) (fun _ h9 => h9) rfl dX11_make_184 ?_
          refine lv_iload hx hb dX11_make_187 (lv_at hl 0 rfl) ?_
          have hi_10 : vp_in (nI i) 40 := by exact kt_in (by omega) (by omega)
          refine va_zald hx hb hK hP 5 1 rfl rfl hi_10 dX11_make_189 ?_
          refine lv_topi (fun a_189 ea_189 => ?_)
          refine lv_if_ne (tgt := 196) hx hb dX11_make_190 (by decide) (fun c_190 => ?_) (fun c_190 => ?_)
          · have d_190 := c_190
            simp only [kt_lt, kt_le, kt_eq, kt_c0, kt_c1, kt_c2, kt_c3, kt_c4, kt_c8, kt_c9, kt_cm1, kt_c81, kt_c40, kt_c7, kt_c5, kt_c6, kt_c512, kt_c10, kt_c10000] at d_190
            have hg6 := hyg i (Nat.le_refl i) (by omega) (by rw [← nI_clamp (n := i) (by omega), ← ea_189]; exact c_190)
            have hr6 := hfg i (by omega)
            refine lv_aload_n hx hb dX11_make_196 rfl (lv_at hl 2 rfl) ?_
            refine va_get (D := D) (ci := 11) (C := RX11) (T := TX11) (N := 29) hx hb hts iw_X11_make_X11 hown hK hP 0 rfl rfl 14 (by decide) (hts (.fieldLink RX11 33 "KingTableModel" "on" "[I") (kt_wp_X11_make__X11_make_r1 kt_wm1)) (fun _ h9 => h9) rfl dX11_make_197 ?_
            refine lv_aload_n hx hb dX11_make_200 rfl (lv_at hl 2 rfl) ?_
            refine va_get (D := D) (ci := 11) (C := RX11) (T := TX11) (N := 29) hx hb hts iw_X11_make_X11 hown hK hP 0 rfl rfl 13 (by decide) (hts (.fieldLink RX11 30 "KingTableModel" "at" "[I") (kt_wp_X11_make__X11_make_r1 kt_wm0)) (fun _ h9 => h9) rfl dX11_make_201 ?_
            refine lv_iload hx hb dX11_make_204 (lv_at hl 0 rfl) ?_
            have hi_11 : vp_in (nI i) 40 := by exact kt_in (by omega) (by omega)
            refine va_iald hx hb hK hP 1 0 rfl rfl hi_11 dX11_make_206 ?_
            refine lv_topi (fun a_206 ea_206 => ?_)
            rw [nI_clamp (by omega)] at ea_206
            have hr206 := congrArg Int32.toInt ea_206
            refine lv_iconst (v := (-1)) hx hb dX11_make_207 (by decide) ?_
            have hi_12 : vp_in a_206 81 := by exact kt_in (by omega) (by omega)
            refine va_iast hx hb hK hP hD hS 2 0 rfl rfl hi_12 dX11_make_208 (fun H locs hP hD hS => ?_)
            have hP : va_P D vwCl [(mx, .inr (11, [.int ml, .int mw, .ref ms, .int mgl, .int mhd, .int mre, .int mag, .int mkt, .int mho, .int mpc, .int msd, .int mki, .ref mk, .ref ma, .ref mo, .ref mg, .ref mm, .ref mt, .int mdn, .int mun, .ref mn, .int tk, .ref me, .ref mq, .int msv, .ref mwo, .ref md, .ref mf, .ref mr])), (ma, .inl (cI, 40, .inl g1)), (mo, .inl (cI, 81, .inl (upd g2 a_206.toNatClampNeg (-1)))), (mg, .inl (cI, 81, .inl fr)), (mk, .inl (cI, 40, .inl fk)), (mn, .inl (cZ, 40, .inl y))] H := hP
            have hD : va_D A [(mx, .inr (11, [.int ml, .int mw, .ref ms, .int mgl, .int mhd, .int mre, .int mag, .int mkt, .int mho, .int mpc, .int msd, .int mki, .ref mk, .ref ma, .ref mo, .ref mg, .ref mm, .ref mt, .int mdn, .int mun, .ref mn, .int tk, .ref me, .ref mq, .int msv, .ref mwo, .ref md, .ref mf, .ref mr])), (ma, .inl (cI, 40, .inl g1)), (mo, .inl (cI, 81, .inl (upd g2 a_206.toNatClampNeg (-1)))), (mg, .inl (cI, 81, .inl fr)), (mk, .inl (cI, 40, .inl fk)), (mn, .inl (cZ, 40, .inl y))] := hD
            refine lv_aload_n hx hb dX11_make_209 rfl (lv_at hl 2 rfl) ?_
            refine va_get (D := D) (ci := 11) (C := RX11) (T := TX11) (N := 29) hx hb hts iw_X11_make_X11 hown hK hP 0 rfl rfl 13 (by decide) (hts (.fieldLink RX11 30 "KingTableModel" "at" "[I") (kt_wp_X11_make__X11_make_r1 kt_wm0)) (fun _ h9 => h9) rfl dX11_make_210 ?_
            refine lv_iload hx hb dX11_make_213 (lv_at hl 0 rfl) ?_
            refine lv_iconst (v := (-1)) hx hb dX11_make_215 (by decide) ?_
            have hi_13 : vp_in (nI i) 40 := by exact kt_in (by omega) (by omega)
            refine va_iast hx hb hK hP hD hS 1 0 rfl rfl hi_13 dX11_make_216 (fun H locs hP hD hS => ?_)
            have hP : va_P D vwCl [(mx, .inr (11, [.int ml, .int mw, .ref ms, .int mgl, .int mhd, .int mre, .int mag, .int mkt, .int mho, .int mpc, .int msd, .int mki, .ref mk, .ref ma, .ref mo, .ref mg, .ref mm, .ref mt, .int mdn, .int mun, .ref mn, .int tk, .ref me, .ref mq, .int msv, .ref mwo, .ref md, .ref mf, .ref mr])), (ma, .inl (cI, 40, .inl (upd g1 (nI i).toNatClampNeg (-1)))), (mo, .inl (cI, 81, .inl (upd g2 a_206.toNatClampNeg (-1)))), (mg, .inl (cI, 81, .inl fr)), (mk, .inl (cI, 40, .inl fk)), (mn, .inl (cZ, 40, .inl y))] H := hP
            have hD : va_D A [(mx, .inr (11, [.int ml, .int mw, .ref ms, .int mgl, .int mhd, .int mre, .int mag, .int mkt, .int mho, .int mpc, .int msd, .int mki, .ref mk, .ref ma, .ref mo, .ref mg, .ref mm, .ref mt, .int mdn, .int mun, .ref mn, .int tk, .ref me, .ref mq, .int msv, .ref mwo, .ref md, .ref mf, .ref mr])), (ma, .inl (cI, 40, .inl (upd g1 (nI i).toNatClampNeg (-1)))), (mo, .inl (cI, 81, .inl (upd g2 a_206.toNatClampNeg (-1)))), (mg, .inl (cI, 81, .inl fr)), (mk, .inl (cI, 40, .inl fk)), (mn, .inl (cZ, 40, .inl y))] := hD
            refine lv_aload_n hx hb dX11_make_217 rfl (lv_at hl 2 rfl) ?_
            refine lv_dup hx hb dX11_make_218 rfl ?_
            refine va_get (D := D) (ci := 11) (C := RX11) (T := TX11) (N := 29) hx hb hts iw_X11_make_X11 hown hK hP 0 rfl rfl 21 (by decide) (hts (.fieldLink RX11 120 "KingTableModel" "tookMany" "I") (kt_wp_X11_make__X11_make_r1 kt_wm4)) (fun _ h9 => h9) rfl dX11_make_219 ?_
            refine lv_iconst (v := 1) hx hb dX11_make_222 (by decide) ?_
            refine lv_iadd hx hb dX11_make_223 ?_
            refine lv_topi (fun t_223 et_223 => ?_)
            first | have hk_223 := kt_addx et_223 (by first | omega | (simp only [kt_c0, kt_c1, kt_c2, kt_c3, kt_c4, kt_c8, kt_c9, kt_cm1, kt_c81, kt_c40, kt_c7, kt_c5, kt_c6, kt_c512, kt_c10, kt_c10000]; omega)) (by first | omega | (simp only [kt_c0, kt_c1, kt_c2, kt_c3, kt_c4, kt_c8, kt_c9, kt_cm1, kt_c81, kt_c40, kt_c7, kt_c5, kt_c6, kt_c512, kt_c10, kt_c10000]; omega)) | obtain ⟨k_223, hk_223, hm_223, hM_223⟩ := kt_addk et_223
            try simp only [kt_c0, kt_c1, kt_c2, kt_c3, kt_c4, kt_c8, kt_c9, kt_cm1, kt_c81, kt_c40, kt_c7, kt_c5, kt_c6, kt_c512, kt_c10, kt_c10000] at hk_223
            refine va_put (D := D) (ci := 11) (v := .int t_223) (ty := .int) (C := RX11) (T := TX11) (N := 29) hx hb hts iw_X11_make_X11 tyX11 tyX11_ok nmX11 hown hK hP hD hS 0 rfl rfl 21 (by decide) (hts (.fieldLink RX11 120 "KingTableModel" "tookMany" "I") (kt_wp_X11_make__X11_make_r1 kt_wm4)) (fun _ h9 => h9) rfl (by decide +kernel) rfl rfl (Nat.le_of_ble_eq_true rfl) dX11_make_224 (fun H locs hP hD hS => ?_)
            have hP : va_P D vwCl [(mx, .inr (11, [.int ml, .int mw, .ref ms, .int mgl, .int mhd, .int mre, .int mag, .int mkt, .int mho, .int mpc, .int msd, .int mki, .ref mk, .ref ma, .ref mo, .ref mg, .ref mm, .ref mt, .int mdn, .int mun, .ref mn, .int t_223, .ref me, .ref mq, .int msv, .ref mwo, .ref md, .ref mf, .ref mr])), (ma, .inl (cI, 40, .inl (upd g1 (nI i).toNatClampNeg (-1)))), (mo, .inl (cI, 81, .inl (upd g2 a_206.toNatClampNeg (-1)))), (mg, .inl (cI, 81, .inl fr)), (mk, .inl (cI, 40, .inl fk)), (mn, .inl (cZ, 40, .inl y))] H := hP
            have hD : va_D A [(mx, .inr (11, [.int ml, .int mw, .ref ms, .int mgl, .int mhd, .int mre, .int mag, .int mkt, .int mho, .int mpc, .int msd, .int mki, .ref mk, .ref ma, .ref mo, .ref mg, .ref mm, .ref mt, .int mdn, .int mun, .ref mn, .int t_223, .ref me, .ref mq, .int msv, .ref mwo, .ref md, .ref mf, .ref mr])), (ma, .inl (cI, 40, .inl (upd g1 (nI i).toNatClampNeg (-1)))), (mo, .inl (cI, 81, .inl (upd g2 a_206.toNatClampNeg (-1)))), (mg, .inl (cI, 81, .inl fr)), (mk, .inl (cI, 40, .inl fk)), (mn, .inl (cZ, 40, .inl y))] := hD
            refine lv_iinc (v := nI (i + 1)) (lv' := [(5, .int (nI (i + 1))), (4, .int r_9), (0, .ref mx), (1, .int p1), (2, .int p2), (3, .int p3)]) hx hb dX11_make_227 hl (k := 0) rfl (nI_1 _) (by decide) rfl (fun ls hl => ?_)
            refine lv_goto (tgt := 174) hx hb dX11_make_230 (by decide) ?_
            exact ih_174 ((i + 1), t_223, (upd g1 (nI i).toNatClampNeg (-1)), (upd g2 a_206.toNatClampNeg (-1))) (by show ((i + 1) ≤ 40 ∧ 40 < (i + 1) + n_174) ∧ kt_r (upd g1 (nI i).toNatClampNeg (-1)) P_ (-1) (ml.toInt * mw.toInt - 1) ∧ kt_con (upd g2 a_206.toNatClampNeg (-1)) (upd g1 (nI i).toNatClampNeg (-1)) P_ ∧ ∀ j, (i + 1) ≤ j → j < P_ → ¬ y j = 0 → 0 ≤ ((upd g1 (nI i).toNatClampNeg (-1)) j).toInt; first | exact ⟨by omega, hfg, hcg, fun j hj => hyg j (by omega)⟩ | (refine ⟨by omega, by rw [nI_clamp (by omega)]; exact hfg.upd (by decide) (by rw [kt_cm1]; omega), by rw [nI_clamp (by omega)]; exact hcg.drop (a := a_206.toInt.toNat) (by rw [← kt_nIof (x := a_206) (by omega), ea_206]) (by omega), fun j hj hj2 hne => by rw [nI_clamp (by omega), pk_un (by omega)]; exact hyg j (by omega) hj2 hne⟩)) H _ hP hD hS ls (lv_sub hl [0, 1, 2, 3, 4, 5] rfl)
          · have d_190 := c_190
            simp only [kt_lt, kt_le, kt_eq, kt_c0, kt_c1, kt_c2, kt_c3, kt_c4, kt_c8, kt_c9, kt_cm1, kt_c81, kt_c40, kt_c7, kt_c5, kt_c6, kt_c512, kt_c10, kt_c10000] at d_190
            refine lv_goto (tgt := 227) hx hb dX11_make_193 (by decide) ?_
            refine lv_iinc (v := nI (i + 1)) (lv' := [(5, .int (nI (i + 1))), (4, .int r_9), (0, .ref mx), (1, .int p1), (2, .int p2), (3, .int p3)]) hx hb dX11_make_227 hl (k := 0) rfl (nI_1 _) (by decide) rfl (fun ls hl => ?_)
            refine lv_goto (tgt := 174) hx hb dX11_make_230 (by decide) ?_
            exact ih_174 ((i + 1), tk, g1, g2) (by show ((i + 1) ≤ 40 ∧ 40 < (i + 1) + n_174) ∧ kt_r g1 P_ (-1) (ml.toInt * mw.toInt - 1) ∧ kt_con g2 g1 P_ ∧ ∀ j, (i + 1) ≤ j → j < P_ → ¬ y j = 0 → 0 ≤ (g1 j).toInt; first | exact ⟨by omega, hfg, hcg, fun j hj => hyg j (by omega)⟩ | (refine ⟨by omega, by rw [nI_clamp (by omega)]; exact hfg.upd (by decide) (by rw [kt_cm1]; omega), by rw [nI_clamp (by omega)]; exact hcg.drop (a := a_206.toInt.toNat) (by rw [← kt_nIof (x := a_206) (by omega), ea_206]) (by omega), fun j hj hj2 hne => by rw [nI_clamp (by omega), pk_un (by omega)]; exact hyg j (by omega) hj2 hne⟩)) H _ hP hD hS ls (lv_sub hl [0, 1, 2, 3, 4, 5] rfl)
      · have d_87 := c_87
        simp only [kt_lt, kt_le, kt_eq, kt_c0, kt_c1, kt_c2, kt_c3, kt_c4, kt_c8, kt_c9, kt_cm1, kt_c81, kt_c40, kt_c7, kt_c5, kt_c6, kt_c512, kt_c10, kt_c10000] at d_87
        refine lv_aload_n hx hb dX11_make_90 rfl (lv_at hl 2 rfl) ?_
        refine lv_iload hx hb dX11_make_91 (lv_at hl 1 rfl) ?_
        refine lv_iload hx hb dX11_make_93 (lv_at hl 0 rfl) ?_
        refine lv_iconst (v := 1) hx hb dX11_make_95 (by decide) ?_
        refine kt_pi (wc := [(mx, .inr (11, [.int ml, .int mw, .ref ms, .int mgl, .int mhd, .int mre, .int mag, .int mkt, .int mho, .int mpc, .int msd, .int mki, .ref mk, .ref ma, .ref mo, .ref mg, .ref mm, .ref mt, .int mdn, .int mun, .ref mn, .int 0, .ref me, .ref mq, .int msv, .ref mwo, .ref md, .ref mf, .ref mr]))]) [0] hP hD hS hA rfl (by decide) (fun hPc hDc => va_runV (As := [.int r_9, .int (nI w), .int 1]) (rest := []) ⟨hx, hb, hml, hown, hts⟩ (c_X11_along l D cI cZ cB H.size mx ms mk ma mo mg mm mt mn me mq mwo md mf mr ml mw mgl mhd mre mag mkt mho mpc msd mki mdn mun 0 msv r_9 (nI w) 1 hml_ hmw (by omega) (by decide)) (cwV 3 hts gX11_make_X11_along rfl rfl rfl (by decide +kernel) ⟨Nat.le_of_ble_eq_true rfl, Nat.le_of_ble_eq_true rfl⟩) (kt_preV hN hK hPc hDc 0 (ci := 11) (q := (RX11, TX11, 29)) rfl rfl) rfl rfl hl.1 rfl (lv_room (Nat.le_of_ble_eq_true rfl)) dX11_make_96 ⟨Nat.le_of_ble_eq_true rfl, Nat.le_of_ble_eq_true rfl⟩) (fun r_96 _ H locs hw_96 hP hS => ?_)
        have hal : -1 ≤ r_96.toInt ∧ r_96.toInt ≤ 80 := by
          rcases Int.lt_or_le (kt_rom r_9.toInt mw.toInt ml.toInt (nI w).toInt) (1 : Int32).toInt with h | h
          · have := hw_96.2 (by omega); omega
          · have := hw_96.1 h; omega
        refine lv_istore (lv' := [(6, .int r_96), (5, .int (nI w)), (4, .int r_9), (0, .ref mx), (1, .int p1), (2, .int p2), (3, .int p3)]) hx hb dX11_make_99 hl (by decide) rfl (fun ls hl => ?_)
        refine lv_iload hx hb dX11_make_101 (lv_at hl 0 rfl) ?_
        refine lv_iconst (v := (-1)) hx hb dX11_make_103 (by decide) ?_
        refine lv_icmp_eq (tgt := 165) hx hb dX11_make_104 (by decide) (fun c_104 => ?_) (fun c_104 => ?_)
        · have d_104 := c_104
          simp only [kt_lt, kt_le, kt_eq, kt_c0, kt_c1, kt_c2, kt_c3, kt_c4, kt_c8, kt_c9, kt_cm1, kt_c81, kt_c40, kt_c7, kt_c5, kt_c6, kt_c512, kt_c10, kt_c10000] at d_104
          refine lv_iinc (v := nI (w + 1)) (lv' := [(5, .int (nI (w + 1))), (6, .int r_96), (4, .int r_9), (0, .ref mx), (1, .int p1), (2, .int p2), (3, .int p3)]) hx hb dX11_make_165 hl (k := 1) rfl (nI_1 _) (by decide) rfl (fun ls hl => ?_)
          refine lv_goto (tgt := 76) hx hb dX11_make_168 (by decide) ?_
          exact ih_76 ((w + 1), y) (by show ((w + 1) ≤ 4 ∧ 4 < (w + 1) + n_76) ∧ ∀ j, j < P_ → ¬ y j = 0 → 0 ≤ (b1 j).toInt; first | exact ⟨by omega, hy⟩ | (refine ⟨by omega, fun j hj hne => ?_⟩; exact if hjk : j = a_150.toNatClampNeg then (by rw [hjk, hq150, ← hq158, hq113.2]; omega) else (by rw [pk_un hjk] at hne; exact hy j hj hne))) H _ hP hD hS ls (lv_sub hl [0, 2, 3, 4, 5, 6] rfl)
        · have d_104 := c_104
          simp only [kt_lt, kt_le, kt_eq, kt_c0, kt_c1, kt_c2, kt_c3, kt_c4, kt_c8, kt_c9, kt_cm1, kt_c81, kt_c40, kt_c7, kt_c5, kt_c6, kt_c512, kt_c10, kt_c10000] at d_104
          refine lv_aload_n hx hb dX11_make_107 rfl (lv_at hl 3 rfl) ?_
          refine va_get (D := D) (ci := 11) (C := RX11) (T := TX11) (N := 29) hx hb hts iw_X11_make_X11 hown hK hP 0 rfl rfl 14 (by decide) (hts (.fieldLink RX11 33 "KingTableModel" "on" "[I") (kt_wp_X11_make__X11_make_r1 kt_wm1)) (fun _ h9 => h9) rfl dX11_make_108 ?_
          refine lv_iload hx hb dX11_make_111 (lv_at hl 0 rfl) ?_
          have hi_14 : vp_in r_96 81 := by exact kt_in (by omega) (by omega)
          refine va_iald hx hb hK hP 2 0 rfl rfl hi_14 dX11_make_113 ?_
          refine lv_topi (fun a_113 ea_113 => ?_)
          have hne113 := ea_113
          refine lv_iconst (v := (-1)) hx hb dX11_make_114 (by decide) ?_
          refine lv_icmp_eq (tgt := 165) hx hb dX11_make_115 (by decide) (fun c_115 => ?_) (fun c_115 => ?_)
          · have d_115 := c_115
            simp only [kt_lt, kt_le, kt_eq, kt_c0, kt_c1, kt_c2, kt_c3, kt_c4, kt_c8, kt_c9, kt_cm1, kt_c81, kt_c40, kt_c7, kt_c5, kt_c6, kt_c512, kt_c10, kt_c10000] at d_115
            refine lv_iinc (v := nI (w + 1)) (lv' := [(5, .int (nI (w + 1))), (6, .int r_96), (4, .int r_9), (0, .ref mx), (1, .int p1), (2, .int p2), (3, .int p3)]) hx hb dX11_make_165 hl (k := 1) rfl (nI_1 _) (by decide) rfl (fun ls hl => ?_)
            refine lv_goto (tgt := 76) hx hb dX11_make_168 (by decide) ?_
            exact ih_76 ((w + 1), y) (by show ((w + 1) ≤ 4 ∧ 4 < (w + 1) + n_76) ∧ ∀ j, j < P_ → ¬ y j = 0 → 0 ≤ (b1 j).toInt; first | exact ⟨by omega, hy⟩ | (refine ⟨by omega, fun j hj hne => ?_⟩; exact if hjk : j = a_150.toNatClampNeg then (by rw [hjk, hq150, ← hq158, hq113.2]; omega) else (by rw [pk_un hjk] at hne; exact hy j hj hne))) H _ hP hD hS ls (lv_sub hl [0, 2, 3, 4, 5, 6] rfl)
          · have d_115 := c_115
            simp only [kt_lt, kt_le, kt_eq, kt_c0, kt_c1, kt_c2, kt_c3, kt_c4, kt_c8, kt_c9, kt_cm1, kt_c81, kt_c40, kt_c7, kt_c5, kt_c6, kt_c512, kt_c10, kt_c10000] at d_115
            have hq113 := hcb.at (by omega) (f := r_96.toInt.toNat) (by omega) ea_113 c_115
            refine lv_aload_n hx hb dX11_make_118 rfl (lv_at hl 3 rfl) ?_
            refine lv_aload_n hx hb dX11_make_119 rfl (lv_at hl 3 rfl) ?_
            refine va_get (D := D) (ci := 11) (C := RX11) (T := TX11) (N := 29) hx hb hts iw_X11_make_X11 hown hK hP 0 rfl rfl 14 (by decide) (hts (.fieldLink RX11 33 "KingTableModel" "on" "[I") (kt_wp_X11_make__X11_make_r1 kt_wm1)) (fun _ h9 => h9) rfl dX11_make_120 ?_
            refine lv_iload hx hb dX11_make_123 (lv_at hl 0 rfl) ?_
            have hi_15 : vp_in r_96 81 := by exact kt_in (by omega) (by omega)
            refine va_iald hx hb hK hP 2 0 rfl rfl hi_15 dX11_make_125 ?_
            refine lv_topi (fun a_125 ea_125 => ?_)
            have hq125 : a_125 = a_113 := by rw [ea_125, ea_113]
            have hr125 := congrArg Int32.toInt hq125
            refine kt_pi (wc := [(mx, .inr (11, [.int ml, .int mw, .ref ms, .int mgl, .int mhd, .int mre, .int mag, .int mkt, .int mho, .int mpc, .int msd, .int mki, .ref mk, .ref ma, .ref mo, .ref mg, .ref mm, .ref mt, .int mdn, .int mun, .ref mn, .int 0, .ref me, .ref mq, .int msv, .ref mwo, .ref md, .ref mf, .ref mr])), (mk, .inl (cI, 40, .inl fk))]) [0, 4] hP hD hS hA rfl (by decide) (fun hPc hDc => va_runV (As := [.int a_125]) (rest := []) ⟨hx, hb, hml, hown, hts⟩ (c_X11_sideOf l D cI cZ cB H.size mx ms mk ma mo mg mm mt mn me mq mwo md mf mr ml mw mgl mhd mre mag mkt mho mpc msd mki mdn mun 0 msv fk a_125 (by first | assumption | omega | rfl | decide)) (cwV 1 hts gX11_make_X11_sideOf rfl rfl rfl (by decide +kernel) ⟨Nat.le_of_ble_eq_true rfl, Nat.le_of_ble_eq_true rfl⟩) (kt_preV hN hK hPc hDc 0 (ci := 11) (q := (RX11, TX11, 29)) rfl rfl) rfl rfl hl.1 rfl (lv_room (Nat.le_of_ble_eq_true rfl)) dX11_make_126 ⟨Nat.le_of_ble_eq_true rfl, Nat.le_of_ble_eq_true rfl⟩) (fun r_126 _ H locs hw_126 hP hS => ?_)
            refine lv_aload_n hx hb dX11_make_129 rfl (lv_at hl 3 rfl) ?_
            refine lv_iload_n hx hb dX11_make_130 rfl (lv_at hl 4 rfl) ?_
            refine kt_pi (wc := [(mx, .inr (11, [.int ml, .int mw, .ref ms, .int mgl, .int mhd, .int mre, .int mag, .int mkt, .int mho, .int mpc, .int msd, .int mki, .ref mk, .ref ma, .ref mo, .ref mg, .ref mm, .ref mt, .int mdn, .int mun, .ref mn, .int 0, .ref me, .ref mq, .int msv, .ref mwo, .ref md, .ref mf, .ref mr])), (mk, .inl (cI, 40, .inl fk))]) [0, 4] hP hD hS hA rfl (by decide) (fun hPc hDc => va_runV (As := [.int p1]) (rest := [.int r_126]) ⟨hx, hb, hml, hown, hts⟩ (c_X11_sideOf l D cI cZ cB H.size mx ms mk ma mo mg mm mt mn me mq mwo md mf mr ml mw mgl mhd mre mag mkt mho mpc msd mki mdn mun 0 msv fk p1 (by first | assumption | omega | rfl | decide)) (cwV 1 hts gX11_make_X11_sideOf rfl rfl rfl (by decide +kernel) ⟨Nat.le_of_ble_eq_true rfl, Nat.le_of_ble_eq_true rfl⟩) (kt_preV hN hK hPc hDc 0 (ci := 11) (q := (RX11, TX11, 29)) rfl rfl) rfl rfl hl.1 rfl (lv_room (Nat.le_of_ble_eq_true rfl)) dX11_make_131 ⟨Nat.le_of_ble_eq_true rfl, Nat.le_of_ble_eq_true rfl⟩) (fun r_131 _ H locs hw_131 hP hS => ?_)
            refine lv_icmp_ne (tgt := 140) hx hb dX11_make_134 (by decide) (fun c_134 => ?_) (fun c_134 => ?_)
            · have d_134 := c_134
              simp only [kt_lt, kt_le, kt_eq, kt_c0, kt_c1, kt_c2, kt_c3, kt_c4, kt_c8, kt_c9, kt_cm1, kt_c81, kt_c40, kt_c7, kt_c5, kt_c6, kt_c512, kt_c10, kt_c10000] at d_134
              refine lv_aload_n hx hb dX11_make_140 rfl (lv_at hl 3 rfl) ?_
              refine va_get (D := D) (ci := 11) (C := RX11) (T := TX11) (N := 29) hx hb hts iw_X11_make_X11 hown hK hP 0 rfl rfl 20 (by decide) (hts (.fieldLink RX11 47 "KingTableModel" "taken" "[Z") (kt_wp_X11_make__X11_make_r1 kt_wm3)) (fun _ h9 => h9) rfl dX11_make_141 ?_
              refine lv_aload_n hx hb dX11_make_144 rfl (lv_at hl 3 rfl) ?_
              refine va_get (D := D) (ci := 11) (C := RX11) (T := TX11) (N := 29) hx hb hts iw_X11_make_X11 hown hK hP 0 rfl rfl 14 (by decide) (hts (.fieldLink RX11 33 "KingTableModel" "on" "[I") (kt_wp_X11_make__X11_make_r1 kt_wm1)) (fun _ h9 => h9) rfl dX11_make_145 ?_
              refine lv_iload hx hb dX11_make_148 (lv_at hl 0 rfl) ?_
              have hi_16 : vp_in r_96 81 := by exact kt_in (by omega) (by omega)
              refine va_iald hx hb hK hP 2 0 rfl rfl hi_16 dX11_make_150 ?_
              refine lv_topi (fun a_150 ea_150 => ?_)
              have hq150 : a_150 = a_113 := by rw [ea_150, ea_113]
              have hr150 := congrArg Int32.toInt hq150
              refine lv_aload_n hx hb dX11_make_151 rfl (lv_at hl 3 rfl) ?_
              refine lv_aload_n hx hb dX11_make_152 rfl (lv_at hl 3 rfl) ?_
              refine va_get (D := D) (ci := 11) (C := RX11) (T := TX11) (N := 29) hx hb hts iw_X11_make_X11 hown hK hP 0 rfl rfl 14 (by decide) (hts (.fieldLink RX11 33 "KingTableModel" "on" "[I") (kt_wp_X11_make__X11_make_r1 kt_wm1)) (fun _ h9 => h9) rfl dX11_make_153 ?_
              refine lv_iload hx hb dX11_make_156 (lv_at hl 0 rfl) ?_
              have hi_17 : vp_in r_96 81 := by exact kt_in (by omega) (by omega)
              refine va_iald hx hb hK hP 2 0 rfl rfl hi_17 dX11_make_158 ?_
              refine lv_topi (fun a_158 ea_158 => ?_)
              have hq158 : a_158 = a_113 := by rw [ea_158, ea_113]
              have hr158 := congrArg Int32.toInt hq158
              rw [← hq158] at hq113
              refine lv_iload hx hb dX11_make_159 (lv_at hl 1 rfl) ?_
              refine kt_pi (wc := [(mx, .inr (11, [.int ml, .int mw, .ref ms, .int mgl, .int mhd, .int mre, .int mag, .int mkt, .int mho, .int mpc, .int msd, .int mki, .ref mk, .ref ma, .ref mo, .ref mg, .ref mm, .ref mt, .int mdn, .int mun, .ref mn, .int 0, .ref me, .ref mq, .int msv, .ref mwo, .ref md, .ref mf, .ref mr])), (ma, .inl (cI, 40, .inl b1)), (mo, .inl (cI, 81, .inl b2)), (mg, .inl (cI, 81, .inl fr)), (mk, .inl (cI, 40, .inl fk))]) [0, 1, 2, 3, 4] hP hD hS hA rfl (by decide) (fun hPc hDc => va_runV (As := [.int a_158, .int (nI w)]) (rest := [.int a_150, .ref mn]) ⟨hx, hb, hml, hown, hts⟩ (c_X11_isTaken l D cI cZ cB H.size mx ms mk ma mo mg mm mt mn me mq mwo md mf mr ml mw mgl mhd mre mag mkt mho mpc msd mki mdn mun 0 msv P_ b1 b2 fr fk a_158 (nI w) hml_ hmw hpc hfb (hcb.r (by omega)) (by omega) (by rw [hq113.2]; omega)) (cwV 2 hts gX11_make_X11_isTaken rfl rfl rfl (by decide +kernel) ⟨Nat.le_of_ble_eq_true rfl, Nat.le_of_ble_eq_true rfl⟩) (kt_preV hN hK hPc hDc 0 (ci := 11) (q := (RX11, TX11, 29)) rfl rfl) rfl rfl hl.1 rfl (lv_room (Nat.le_of_ble_eq_true rfl)) dX11_make_161 ⟨Nat.le_of_ble_eq_true rfl, Nat.le_of_ble_eq_true rfl⟩) (fun r_161 _ H locs hw_161 hP hS => ?_)
              have hi_18 : vp_in a_150 40 := by exact kt_in (by omega) (by omega)
              refine va_zast hx hb hK hP hD hS 5 1 rfl rfl hi_18 dX11_make_164 (fun H locs hP hD hS => ?_)
              have hP : va_P D vwCl [(mx, .inr (11, [.int ml, .int mw, .ref ms, .int mgl, .int mhd, .int mre, .int mag, .int mkt, .int mho, .int mpc, .int msd, .int mki, .ref mk, .ref ma, .ref mo, .ref mg, .ref mm, .ref mt, .int mdn, .int mun, .ref mn, .int 0, .ref me, .ref mq, .int msv, .ref mwo, .ref md, .ref mf, .ref mr])), (ma, .inl (cI, 40, .inl b1)), (mo, .inl (cI, 81, .inl b2)), (mg, .inl (cI, 81, .inl fr)), (mk, .inl (cI, 40, .inl fk)), (mn, .inl (cZ, 40, .inl (upd y a_150.toNatClampNeg (vp_nar .boolean r_161))))] H := hP
              have hD : va_D A [(mx, .inr (11, [.int ml, .int mw, .ref ms, .int mgl, .int mhd, .int mre, .int mag, .int mkt, .int mho, .int mpc, .int msd, .int mki, .ref mk, .ref ma, .ref mo, .ref mg, .ref mm, .ref mt, .int mdn, .int mun, .ref mn, .int 0, .ref me, .ref mq, .int msv, .ref mwo, .ref md, .ref mf, .ref mr])), (ma, .inl (cI, 40, .inl b1)), (mo, .inl (cI, 81, .inl b2)), (mg, .inl (cI, 81, .inl fr)), (mk, .inl (cI, 40, .inl fk)), (mn, .inl (cZ, 40, .inl (upd y a_150.toNatClampNeg (vp_nar .boolean r_161))))] := hD
              refine lv_iinc (v := nI (w + 1)) (lv' := [(5, .int (nI (w + 1))), (6, .int r_96), (4, .int r_9), (0, .ref mx), (1, .int p1), (2, .int p2), (3, .int p3)]) hx hb dX11_make_165 hl (k := 1) rfl (nI_1 _) (by decide) rfl (fun ls hl => ?_)
              refine lv_goto (tgt := 76) hx hb dX11_make_168 (by decide) ?_
              exact ih_76 ((w + 1), (upd y a_150.toNatClampNeg (vp_nar .boolean r_161))) (by show ((w + 1) ≤ 4 ∧ 4 < (w + 1) + n_76) ∧ ∀ j, j < P_ → ¬ (upd y a_150.toNatClampNeg (vp_nar .boolean r_161)) j = 0 → 0 ≤ (b1 j).toInt; first | exact ⟨by omega, hy⟩ | (refine ⟨by omega, fun j hj hne => ?_⟩; exact if hjk : j = a_150.toNatClampNeg then (by rw [hjk, hq150, ← hq158, hq113.2]; omega) else (by rw [pk_un hjk] at hne; exact hy j hj hne))) H _ hP hD hS ls (lv_sub hl [0, 2, 3, 4, 5, 6] rfl)
            · have d_134 := c_134
              simp only [kt_lt, kt_le, kt_eq, kt_c0, kt_c1, kt_c2, kt_c3, kt_c4, kt_c8, kt_c9, kt_cm1, kt_c81, kt_c40, kt_c7, kt_c5, kt_c6, kt_c512, kt_c10, kt_c10000] at d_134
              refine lv_goto (tgt := 165) hx hb dX11_make_137 (by decide) ?_
              refine lv_iinc (v := nI (w + 1)) (lv' := [(5, .int (nI (w + 1))), (6, .int r_96), (4, .int r_9), (0, .ref mx), (1, .int p1), (2, .int p2), (3, .int p3)]) hx hb dX11_make_165 hl (k := 1) rfl (nI_1 _) (by decide) rfl (fun ls hl => ?_)
              refine lv_goto (tgt := 76) hx hb dX11_make_168 (by decide) ?_
              exact ih_76 ((w + 1), y) (by show ((w + 1) ≤ 4 ∧ 4 < (w + 1) + n_76) ∧ ∀ j, j < P_ → ¬ y j = 0 → 0 ≤ (b1 j).toInt; first | exact ⟨by omega, hy⟩ | (refine ⟨by omega, fun j hj hne => ?_⟩; exact if hjk : j = a_150.toNatClampNeg then (by rw [hjk, hq150, ← hq158, hq113.2]; omega) else (by rw [pk_un hjk] at hne; exact hy j hj hne))) H _ hP hD hS ls (lv_sub hl [0, 2, 3, 4, 5, 6] rfl)
  · have d_51 := c_51
    simp only [kt_lt, kt_le, kt_eq, kt_c0, kt_c1, kt_c2, kt_c3, kt_c4, kt_c8, kt_c9, kt_cm1, kt_c81, kt_c40, kt_c7, kt_c5, kt_c6, kt_c512, kt_c10, kt_c10000] at d_51
    refine lv_aload_n hx hb dX11_make_54 rfl (lv_at hl 2 rfl) ?_
    refine va_get (D := D) (ci := 11) (C := RX11) (T := TX11) (N := 29) hx hb hts iw_X11_make_X11 hown hK hP 0 rfl rfl 20 (by decide) (hts (.fieldLink RX11 47 "KingTableModel" "taken" "[Z") (kt_wp_X11_make__X11_make_r1 kt_wm3)) (fun _ h9 => h9) rfl dX11_make_55 ?_
    refine lv_iload hx hb dX11_make_58 (lv_at hl 0 rfl) ?_
    refine lv_iconst (v := 0) hx hb dX11_make_60 (by decide) ?_
    have hi_19 : vp_in (nI k) 40 := by exact kt_in (by omega) (by omega)
    refine va_zast hx hb hK hP hD hS 5 1 rfl rfl hi_19 dX11_make_61 (fun H locs hP hD hS => ?_)
    have hP : va_P D vwCl [(mx, .inr (11, [.int ml, .int mw, .ref ms, .int mgl, .int mhd, .int mre, .int mag, .int mkt, .int mho, .int mpc, .int msd, .int mki, .ref mk, .ref ma, .ref mo, .ref mg, .ref mm, .ref mt, .int mdn, .int mun, .ref mn, .int mtk, .ref me, .ref mq, .int msv, .ref mwo, .ref md, .ref mf, .ref mr])), (ma, .inl (cI, 40, .inl b1)), (mo, .inl (cI, 81, .inl b2)), (mg, .inl (cI, 81, .inl fr)), (mk, .inl (cI, 40, .inl fk)), (mn, .inl (cZ, 40, .inl (upd z (nI k).toNatClampNeg (vp_nar .boolean 0))))] H := hP
    have hD : va_D A [(mx, .inr (11, [.int ml, .int mw, .ref ms, .int mgl, .int mhd, .int mre, .int mag, .int mkt, .int mho, .int mpc, .int msd, .int mki, .ref mk, .ref ma, .ref mo, .ref mg, .ref mm, .ref mt, .int mdn, .int mun, .ref mn, .int mtk, .ref me, .ref mq, .int msv, .ref mwo, .ref md, .ref mf, .ref mr])), (ma, .inl (cI, 40, .inl b1)), (mo, .inl (cI, 81, .inl b2)), (mg, .inl (cI, 81, .inl fr)), (mk, .inl (cI, 40, .inl fk)), (mn, .inl (cZ, 40, .inl (upd z (nI k).toNatClampNeg (vp_nar .boolean 0))))] := hD
    refine lv_iinc (v := nI (k + 1)) (lv' := [(5, .int (nI (k + 1))), (4, .int r_9), (0, .ref mx), (1, .int p1), (2, .int p2), (3, .int p3)]) hx hb dX11_make_62 hl (k := 0) rfl (nI_1 _) (by decide) rfl (fun ls hl => ?_)
    refine lv_goto (tgt := 45) hx hb dX11_make_65 (by decide) ?_
    exact ih_45 ((k + 1), (upd z (nI k).toNatClampNeg (vp_nar .boolean 0))) (by show ((k + 1) ≤ 40 ∧ 40 < (k + 1) + n_45) ∧ ∀ j, j < (k + 1) → (upd z (nI k).toNatClampNeg (vp_nar .boolean 0)) j = 0; refine ⟨by omega, fun j hj => ?_⟩; rw [nI_clamp (by omega)]; exact if hjk : j = k then (by rw [hjk, pk_us]; rfl) else (by rw [pk_un hjk]; exact hz j (by omega))) H _ hP hD hS ls (lv_sub hl [0, 1, 2, 3, 4, 5] rfl)
