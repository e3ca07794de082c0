def kt_nz (x : Int32) : Bool := decide (¬ x = 0)
theorem kt_vic_one {fo fa fr fk : Nat → Int32} {mkt mhd : Int32} {w L t : Int} {p a b j P : Nat} (hc : kt_con fo fa P) (hP : P ≤ 40) (hw : 2 ≤ w ∧ w ≤ 9) (hL : 2 ≤ L ∧ L ≤ 9) (ht : 0 ≤ t ∧ t < L * w) (ha : a < 4) (hb : b < 4) (h1 : kt_vic fo fr fk mkt mhd w L p t a j) (hj : j < P) (hf : fa j = nI (kt_al t w L b 1).toNat) (hb2 : ¬ kt_al t w L b 1 = -1) : a = b := by
  rcases kt_al_r (a := (a : Int)) (n := 1) hw hL ht (by omega) with h | h
  · exact absurd h.1 h1.1
  · rcases kt_al_r (a := (b : Int)) (n := 1) hw hL ht (by omega) with h2 | h2
    · exact absurd h2.1 hb2
    · have h3 := h1.2.1
      obtain ⟨q, hq, e1, e2⟩ := hc (kt_al t w L a 1).toNat (by omega) (by rw [h3]; exact kt_nIm1 (by omega))
      rw [h3] at e1
      have e3 := kt_nIinj (by omega) (by omega) e1
      rw [← e3, hf] at e2
      have e4 := kt_nIinj (by omega) (by omega) e2
      exact kt_al_inj hw.1 ha hb (by omega) h1.1

set_option maxHeartbeats 4000000 in
set_option maxRecDepth 100000 in
theorem c_X11_makeE (l : Launch) (D : va_G) (cI cZ cB : ClassId) (sz : Nat) (mx : Nat) (ms : Nat) (mk : Nat) (ma : Nat) (mo : Nat) (mg : Nat) (mm : Nat) (mt : Nat) (mn : Nat) (me : Nat) (mq : Nat) (mwo : Nat) (md : Nat) (mf : Nat) (mr : Nat) (ml : Int32) (mw : Int32) (mgl : Int32) (mhd : Int32) (mre : Int32) (mag : Int32) (mkt : Int32) (mho : Int32) (mpc : Int32) (msd : Int32) (mki : Int32) (mdn : Int32) (mun : Int32) (mtk : Int32) (msv : Int32) (P_ : Nat) (fa : Nat → Int32) (fo : Nat → Int32) (fr : Nat → Int32) (fk : Nat → Int32) (ft : Nat → Int32) (p1 : Int32) (p2 : Int32) (p3 : Int32) (hml_ : 2 ≤ ml.toInt ∧ ml.toInt ≤ 9) (hmw : 2 ≤ mw.toInt ∧ mw.toInt ≤ 9) (hpc : (P_ : Int) = mpc.toInt ∧ P_ ≤ 40) (hfa : kt_r fa P_ (-1) (ml.toInt * mw.toInt - 1)) (hco : kt_con fo fa P_) (hcc : kt_coc fo fa P_) (hp1 : 0 ≤ p1.toInt ∧ p1.toInt < (P_ : Int)) (hon : 0 ≤ (fa p1.toNatClampNeg).toInt) (hp3 : 1 ≤ p3.toInt) (hrom : p3.toInt ≤ kt_rom (fa p1.toNatClampNeg).toInt mw.toInt ml.toInt p2.toInt) (hfree : ∀ q, q < P_ → ¬ fa q = nI (kt_al (fa p1.toNatClampNeg).toInt mw.toInt ml.toInt p2.toInt p3.toInt).toNat) (hsd : 0 ≤ msd.toInt ∧ msd.toInt ≤ 1) : kt_Mv l yX11_make wsX11_make { frames := 3, cells := 0, slots := 0, locals := 67 } D (kt_ty cI cZ cB) [.ref mx, .int p1, .int p2, .int p3] sz [(mx, .inr (11, [.int ml, .int mw, .ref ms, .int mgl, .int mhd, .int mre, .int mag, .int mkt, .int mho, .int mpc, .int msd, .int mki, .ref mk, .ref ma, .ref mo, .ref mg, .ref mm, .ref mt, .int mdn, .int mun, .ref mn, .int mtk, .ref me, .ref mq, .int msv, .ref mwo, .ref md, .ref mf, .ref mr])), (ma, .inl (cI, 40, .inl fa)), (mo, .inl (cI, 81, .inl fo)), (mg, .inl (cI, 81, .inl fr)), (mk, .inl (cI, 40, .inl fk)), (mn, .inl (cZ, 40, .inl ft))] (fun (u : (Nat → Int32) × (Nat → Int32) × (Nat → Int32) × Int32 × Int32) => (kt_r u.1 P_ (-1) (ml.toInt * mw.toInt - 1) ∧ kt_con u.2.1 u.1 P_ ∧ kt_coc u.2.1 u.1 P_) ∧ (u.2.2.2.2 = 1 - msd ∧ 0 ≤ u.2.2.2.2.toInt ∧ u.2.2.2.2.toInt ≤ 1) ∧ kt_cut P_ u.1 = kt_mk P_ mw.toInt ml.toInt fr fk mkt mhd (kt_cut P_ fa) p1.toNatClampNeg p2.toInt p3.toInt ∧ u.2.2.2.1 = nI (kt_ct kt_nz u.2.2.1 P_)) (fun (u : (Nat → Int32) × (Nat → Int32) × (Nat → Int32) × Int32 × Int32) => [(mx, .inr (11, [.int ml, .int mw, .ref ms, .int mgl, .int mhd, .int mre, .int mag, .int mkt, .int mho, .int mpc, .int u.2.2.2.2, .int mki, .ref mk, .ref ma, .ref mo, .ref mg, .ref mm, .ref mt, .int mdn, .int mun, .ref mn, .int u.2.2.2.1, .ref me, .ref mq, .int msv, .ref mwo, .ref md, .ref mf, .ref mr])), (ma, .inl (cI, 40, .inl u.1)), (mo, .inl (cI, 81, .inl u.2.1)), (mg, .inl (cI, 81, .inl fr)), (mk, .inl (cI, 40, .inl fk)), (mn, .inl (cZ, 40, .inl u.2.2.1))]) 0 0 := by
  refine kt_Mv.of (cc := cX11_make) (maxL := 7) (ret := none) (by decide) rfl (Nat.le_of_ble_eq_true rfl) ?_
  intro p e s m below meth c A ls H hAt hP hD hS hl
  obtain ⟨hx, hb, hr, hml, hown, hts, hN, hK, hlk, hnm, hA⟩ := hAt
  have hl : lv_has ls 7 [(0, .ref mx), (1, .int p1), (2, .int p2), (3, .int p3)] := hl
  have hown : s.vm.findClass RX11 = some m.cls := hown
  have hsb := kt_mulb hml_ hmw
  have hfp := hfa.get (kt_in (x := p1) (n := P_) (by omega) (by omega))
  have har := kt_al_r (a := p2.toInt) (n := p3.toInt) hmw hml_ (show 0 ≤ (fa p1.toNatClampNeg).toInt ∧ (fa p1.toNatClampNeg).toInt < ml.toInt * mw.toInt by omega) hp3
  refine lv_aload_n hx hb dX11_make_0 rfl (lv_at hl 0 rfl) ?_
  refine lv_aload_n hx hb dX11_make_1 rfl (lv_at hl 0 rfl) ?_
  refine va_get (D := D) (ci := 11) (C := RX11) (T := TX11) (N := 29) hx hb hts iw_X11_make_X11 hown hK hP 0 rfl rfl 13 (by decide) (hts (.fieldLink RX11 30 "KingTableModel" "at" "[I") (kt_wp_X11_make__X11_make_r1 kt_wm0)) (fun _ h9 => h9) rfl dX11_make_2 ?_
  refine lv_iload_n hx hb dX11_make_5 rfl (lv_at hl 1 rfl) ?_
  have hi_1 : vp_in p1 40 := by exact kt_in (by omega) (by omega)
  refine va_iald hx hb hK hP 1 0 rfl rfl hi_1 dX11_make_6 ?_
  refine lv_topi (fun a_6 ea_6 => ?_)
  refine lv_iload_n hx hb dX11_make_7 rfl (lv_at hl 2 rfl) ?_
  refine lv_iload_n hx hb dX11_make_8 rfl (lv_at hl 3 rfl) ?_
  refine kt_pi (wc := [(mx, .inr (11, [.int ml, .int mw, .ref ms, .int mgl, .int mhd, .int mre, .int mag, .int mkt, .int mho, .int mpc, .int msd, .int mki, .ref mk, .ref ma, .ref mo, .ref mg, .ref mm, .ref mt, .int mdn, .int mun, .ref mn, .int mtk, .ref me, .ref mq, .int msv, .ref mwo, .ref md, .ref mf, .ref mr]))]) [0] hP hD hS hA rfl (by decide) (fun hPc hDc => va_runV (As := [.int a_6, .int p2, .int p3]) (rest := []) ⟨hx, hb, hml, hown, hts⟩ (c_X11_alongE l D cI cZ cB H.size mx ms mk ma mo mg mm mt mn me mq mwo md mf mr ml mw mgl mhd mre mag mkt mho mpc msd mki mdn mun mtk msv a_6 p2 p3 hml_ hmw (by rw [ea_6]; omega) hp3) (cwV 3 hts gX11_make_X11_along rfl rfl rfl (by decide +kernel) ⟨Nat.le_of_ble_eq_true rfl, Nat.le_of_ble_eq_true rfl⟩) (kt_preV hN hK hPc hDc 0 (ci := 11) (q := (RX11, TX11, 29)) rfl rfl) rfl rfl hl.1 rfl (lv_room (Nat.le_of_ble_eq_true rfl)) dX11_make_9 ⟨Nat.le_of_ble_eq_true rfl, Nat.le_of_ble_eq_true rfl⟩) (fun r_9 _ H locs hw_9 hP hS => ?_)
  rw [ea_6] at hw_9
  have hto : 0 ≤ r_9.toInt ∧ r_9.toInt < ml.toInt * mw.toInt ∧ r_9.toInt ≤ 80 := by omega
  refine lv_istore (lv' := [(4, .int r_9), (0, .ref mx), (1, .int p1), (2, .int p2), (3, .int p3)]) hx hb dX11_make_12 hl (by decide) rfl (fun ls hl => ?_)
  refine lv_aload_n hx hb dX11_make_14 rfl (lv_at hl 1 rfl) ?_
  refine va_get (D := D) (ci := 11) (C := RX11) (T := TX11) (N := 29) hx hb hts iw_X11_make_X11 hown hK hP 0 rfl rfl 14 (by decide) (hts (.fieldLink RX11 33 "KingTableModel" "on" "[I") (kt_wp_X11_make__X11_make_r1 kt_wm1)) (fun _ h9 => h9) rfl dX11_make_15 ?_
  refine lv_aload_n hx hb dX11_make_18 rfl (lv_at hl 1 rfl) ?_
  refine va_get (D := D) (ci := 11) (C := RX11) (T := TX11) (N := 29) hx hb hts iw_X11_make_X11 hown hK hP 0 rfl rfl 13 (by decide) (hts (.fieldLink RX11 30 "KingTableModel" "at" "[I") (kt_wp_X11_make__X11_make_r1 kt_wm0)) (fun _ h9 => h9) rfl dX11_make_19 ?_
  refine lv_iload_n hx hb dX11_make_22 rfl (lv_at hl 2 rfl) ?_
  have hi_2 : vp_in p1 40 := by exact kt_in (by omega) (by omega)
  refine va_iald hx hb hK hP 1 0 rfl rfl hi_2 dX11_make_23 ?_
  refine lv_topi (fun a_23 ea_23 => ?_)
  have he23 : a_23.toInt = (fa p1.toNatClampNeg).toInt := by rw [ea_23]
  refine lv_iconst (v := (-1)) hx hb dX11_make_24 (by decide) ?_
  have hi_3 : vp_in a_23 81 := by exact kt_in (by omega) (by omega)
  refine va_iast hx hb hK hP hD hS 2 0 rfl rfl hi_3 dX11_make_25 (fun H locs hP hD hS => ?_)
  obtain ⟨b0, eb0⟩ : ∃ g : Nat → Int32, g = upd fo a_23.toNatClampNeg (-1) := ⟨_, rfl⟩
  rw [← eb0] at hP hD
  have hP : va_P D vwCl [(mx, .inr (11, [.int ml, .int mw, .ref ms, .int mgl, .int mhd, .int mre, .int mag, .int mkt, .int mho, .int mpc, .int msd, .int mki, .ref mk, .ref ma, .ref mo, .ref mg, .ref mm, .ref mt, .int mdn, .int mun, .ref mn, .int mtk, .ref me, .ref mq, .int msv, .ref mwo, .ref md, .ref mf, .ref mr])), (ma, .inl (cI, 40, .inl fa)), (mo, .inl (cI, 81, .inl b0)), (mg, .inl (cI, 81, .inl fr)), (mk, .inl (cI, 40, .inl fk)), (mn, .inl (cZ, 40, .inl ft))] H := hP
  have hD : va_D A [(mx, .inr (11, [.int ml, .int mw, .ref ms, .int mgl, .int mhd, .int mre, .int mag, .int mkt, .int mho, .int mpc, .int msd, .int mki, .ref mk, .ref ma, .ref mo, .ref mg, .ref mm, .ref mt, .int mdn, .int mun, .ref mn, .int mtk, .ref me, .ref mq, .int msv, .ref mwo, .ref md, .ref mf, .ref mr])), (ma, .inl (cI, 40, .inl fa)), (mo, .inl (cI, 81, .inl b0)), (mg, .inl (cI, 81, .inl fr)), (mk, .inl (cI, 40, .inl fk)), (mn, .inl (cZ, 40, .inl ft))] := hD
  refine lv_aload_n hx hb dX11_make_26 rfl (lv_at hl 1 rfl) ?_
  refine va_get (D := D) (ci := 11) (C := RX11) (T := TX11) (N := 29) hx hb hts iw_X11_make_X11 hown hK hP 0 rfl rfl 13 (by decide) (hts (.fieldLink RX11 30 "KingTableModel" "at" "[I") (kt_wp_X11_make__X11_make_r1 kt_wm0)) (fun _ h9 => h9) rfl dX11_make_27 ?_
  refine lv_iload_n hx hb dX11_make_30 rfl (lv_at hl 2 rfl) ?_
  refine lv_iload hx hb dX11_make_31 (lv_at hl 0 rfl) ?_
  have hi_4 : vp_in p1 40 := by exact kt_in (by omega) (by omega)
  refine va_iast hx hb hK hP hD hS 1 0 rfl rfl hi_4 dX11_make_33 (fun H locs hP hD hS => ?_)
  obtain ⟨b1, eb1⟩ : ∃ g : Nat → Int32, g = upd fa p1.toNatClampNeg r_9 := ⟨_, rfl⟩
  rw [← eb1] at hP hD
  have hP : va_P D vwCl [(mx, .inr (11, [.int ml, .int mw, .ref ms, .int mgl, .int mhd, .int mre, .int mag, .int mkt, .int mho, .int mpc, .int msd, .int mki, .ref mk, .ref ma, .ref mo, .ref mg, .ref mm, .ref mt, .int mdn, .int mun, .ref mn, .int mtk, .ref me, .ref mq, .int msv, .ref mwo, .ref md, .ref mf, .ref mr])), (ma, .inl (cI, 40, .inl b1)), (mo, .inl (cI, 81, .inl b0)), (mg, .inl (cI, 81, .inl fr)), (mk, .inl (cI, 40, .inl fk)), (mn, .inl (cZ, 40, .inl ft))] H := hP
  have hD : va_D A [(mx, .inr (11, [.int ml, .int mw, .ref ms, .int mgl, .int mhd, .int mre, .int mag, .int mkt, .int mho, .int mpc, .int msd, .int mki, .ref mk, .ref ma, .ref mo, .ref mg, .ref mm, .ref mt, .int mdn, .int mun, .ref mn, .int mtk, .ref me, .ref mq, .int msv, .ref mwo, .ref md, .ref mf, .ref mr])), (ma, .inl (cI, 40, .inl b1)), (mo, .inl (cI, 81, .inl b0)), (mg, .inl (cI, 81, .inl fr)), (mk, .inl (cI, 40, .inl fk)), (mn, .inl (cZ, 40, .inl ft))] := hD
  refine lv_aload_n hx hb dX11_make_34 rfl (lv_at hl 1 rfl) ?_
  refine va_get (D := D) (ci := 11) (C := RX11) (T := TX11) (N := 29) hx hb hts iw_X11_make_X11 hown hK hP 0 rfl rfl 14 (by decide) (hts (.fieldLink RX11 33 "KingTableModel" "on" "[I") (kt_wp_X11_make__X11_make_r1 kt_wm1)) (fun _ h9 => h9) rfl dX11_make_35 ?_
  refine lv_iload hx hb dX11_make_38 (lv_at hl 0 rfl) ?_
  refine lv_iload_n hx hb dX11_make_40 rfl (lv_at hl 2 rfl) ?_
  have hi_5 : vp_in r_9 81 := by exact kt_in (by omega) (by omega)
  refine va_iast hx hb hK hP hD hS 2 0 rfl rfl hi_5 dX11_make_41 (fun H locs hP hD hS => ?_)
  obtain ⟨b2, eb2⟩ : ∃ g : Nat → Int32, g = upd b0 r_9.toNatClampNeg p1 := ⟨_, rfl⟩
  rw [← eb2] at hP hD
  have hP : va_P D vwCl [(mx, .inr (11, [.int ml, .int mw, .ref ms, .int mgl, .int mhd, .int mre, .int mag, .int mkt, .int mho, .int mpc, .int msd, .int mki, .ref mk, .ref ma, .ref mo, .ref mg, .ref mm, .ref mt, .int mdn, .int mun, .ref mn, .int mtk, .ref me, .ref mq, .int msv, .ref mwo, .ref md, .ref mf, .ref mr])), (ma, .inl (cI, 40, .inl b1)), (mo, .inl (cI, 81, .inl b2)), (mg, .inl (cI, 81, .inl fr)), (mk, .inl (cI, 40, .inl fk)), (mn, .inl (cZ, 40, .inl ft))] H := hP
  have hD : va_D A [(mx, .inr (11, [.int ml, .int mw, .ref ms, .int mgl, .int mhd, .int mre, .int mag, .int mkt, .int mho, .int mpc, .int msd, .int mki, .ref mk, .ref ma, .ref mo, .ref mg, .ref mm, .ref mt, .int mdn, .int mun, .ref mn, .int mtk, .ref me, .ref mq, .int msv, .ref mwo, .ref md, .ref mf, .ref mr])), (ma, .inl (cI, 40, .inl b1)), (mo, .inl (cI, 81, .inl b2)), (mg, .inl (cI, 81, .inl fr)), (mk, .inl (cI, 40, .inl fk)), (mn, .inl (cZ, 40, .inl ft))] := hD
  have hb1 : b1 = upd fa p1.toInt.toNat (nI r_9.toInt.toNat) := by rw [eb1, ← kt_nIof (x := r_9) (by omega)]; rfl
  have hb2 : b2 = upd (upd fo (fa p1.toNatClampNeg).toInt.toNat (-1)) r_9.toInt.toNat (nI p1.toInt.toNat) := by rw [eb2, eb0, ← kt_nIof (x := p1) (by omega), ea_23]; rfl
  have hcb : kt_con b2 b1 P_ := by
    rw [hb1, hb2]
    exact hco.move (by omega) (kt_nIof (x := fa p1.toInt.toNat) (by exact hon)) (by omega)
  have hkb2 : kt_coc b2 b1 P_ := by
    rw [hb1, hb2]
    exact hcc.move (by omega) (by omega) (kt_nIof (x := fa p1.toInt.toNat) (by exact hon)) (by omega) (by omega) (by rw [hw_9]; exact hfree)
  have hfb : kt_r b1 P_ (-1) (ml.toInt * mw.toInt - 1) := by
    rw [eb1]
    exact hfa.upd (by omega) (by omega)
  refine lv_iconst (v := 0) hx hb dX11_make_42 (by decide) ?_
  refine lv_istore (lv' := [(5, .int 0), (4, .int r_9), (0, .ref mx), (1, .int p1), (2, .int p2), (3, .int p3)]) hx hb dX11_make_43 hl (by decide) rfl (fun ls hl => ?_)
  refine kt_loop (σ := Nat × (Nat → Int32)) 45 7 (fun u => [(mx, .inr (11, [.int ml, .int mw, .ref ms, .int mgl, .int mhd, .int mre, .int mag, .int mkt, .int mho, .int mpc, .int msd, .int mki, .ref mk, .ref ma, .ref mo, .ref mg, .ref mm, .ref mt, .int mdn, .int mun, .ref mn, .int mtk, .ref me, .ref mq, .int msv, .ref mwo, .ref md, .ref mf, .ref mr])), (ma, .inl (cI, 40, .inl b1)), (mo, .inl (cI, 81, .inl b2)), (mg, .inl (cI, 81, .inl fr)), (mk, .inl (cI, 40, .inl fk)), (mn, .inl (cZ, 40, .inl u.2))]) (fun u => [(5, .int (nI u.1)), (4, .int r_9), (0, .ref mx), (1, .int p1), (2, .int p2), (3, .int p3)]) (fun n u => (u.1 ≤ 40 ∧ 40 < u.1 + n) ∧ ∀ j, j < u.1 → u.2 j = 0) (fun u h => by omega) (fun n_45 ih_45 u hI H locs hP hD hS ls hl => ?_) (41) (0, ft) (by show (0 ≤ 40 ∧ 40 < 0 + 41) ∧ ∀ j, j < 0 → ft j = 0; exact ⟨by decide, fun j h => absurd h (Nat.not_lt_zero j)⟩) hP hD hS (lv_sub hl [0, 1, 2, 3, 4, 5] rfl)
  obtain ⟨k, z⟩ := u
  have hP : va_P D vwCl [(mx, .inr (11, [.int ml, .int mw, .ref ms, .int mgl, .int mhd, .int mre, .int mag, .int mkt, .int mho, .int mpc, .int msd, .int mki, .ref mk, .ref ma, .ref mo, .ref mg, .ref mm, .ref mt, .int mdn, .int mun, .ref mn, .int mtk, .ref me, .ref mq, .int msv, .ref mwo, .ref md, .ref mf, .ref mr])), (ma, .inl (cI, 40, .inl b1)), (mo, .inl (cI, 81, .inl b2)), (mg, .inl (cI, 81, .inl fr)), (mk, .inl (cI, 40, .inl fk)), (mn, .inl (cZ, 40, .inl z))] H := hP
  have hD : va_D A [(mx, .inr (11, [.int ml, .int mw, .ref ms, .int mgl, .int mhd, .int mre, .int mag, .int mkt, .int mho, .int mpc, .int msd, .int mki, .ref mk, .ref ma, .ref mo, .ref mg, .ref mm, .ref mt, .int mdn, .int mun, .ref mn, .int mtk, .ref me, .ref mq, .int msv, .ref mwo, .ref md, .ref mf, .ref mr])), (ma, .inl (cI, 40, .inl b1)), (mo, .inl (cI, 81, .inl b2)), (mg, .inl (cI, 81, .inl fr)), (mk, .inl (cI, 40, .inl fk)), (mn, .inl (cZ, 40, .inl z))] := hD
  have hl : lv_has ls 7 [(5, .int (nI k)), (4, .int r_9), (0, .ref mx), (1, .int p1), (2, .int p2), (3, .int p3)] := hl
  have hI : (k ≤ 40 ∧ 40 < k + (n_45 + 1)) ∧ ∀ j, j < k → z j = 0 := hI
  obtain ⟨hkb, hz⟩ := hI
  have hk0 := kt_nI (n := k) (by omega)
  refine lv_iload hx hb dX11_make_45 (lv_at hl 0 rfl) ?_
  refine lv_aload_n hx hb dX11_make_47 rfl (lv_at hl 2 rfl) ?_
  refine va_get (D := D) (ci := 11) (C := RX11) (T := TX11) (N := 29) hx hb hts iw_X11_make_X11 hown hK hP 0 rfl rfl 9 (by decide) (hts (.fieldLink RX11 103 "KingTableModel" "pieces" "I") (kt_wp_X11_make__X11_make_r1 kt_wm2)) (fun _ h9 => h9) rfl dX11_make_48 ?_
  refine lv_icmp_ge (tgt := 68) hx hb dX11_make_51 (by decide) (fun c_51 => ?_) (fun c_51 => ?_)
  · have d_51 := c_51
    simp only [kt_lt, kt_le, kt_eq, kt_c0, kt_c1, kt_c2, kt_c3, kt_c4, kt_c8, kt_c9, kt_cm1, kt_c81, kt_c40, kt_c7, kt_c5, kt_c6, kt_c512, kt_c10, kt_c10000] at d_51
    refine lv_aload_n hx hb dX11_make_68 rfl (lv_at hl 2 rfl) ?_
    refine lv_iconst (v := 0) hx hb dX11_make_69 (by decide) ?_
    refine va_put (D := D) (ci := 11) (v := .int 0) (ty := .int) (C := RX11) (T := TX11) (N := 29) hx hb hts iw_X11_make_X11 tyX11 tyX11_ok nmX11 hown hK hP hD hS 0 rfl rfl 21 (by decide) (hts (.fieldLink RX11 120 "KingTableModel" "tookMany" "I") (kt_wp_X11_make__X11_make_r1 kt_wm4)) (fun _ h9 => h9) rfl (by decide +kernel) rfl rfl (Nat.le_of_ble_eq_true rfl) dX11_make_70 (fun H locs hP hD hS => ?_)
    have hP : va_P D vwCl [(mx, .inr (11, [.int ml, .int mw, .ref ms, .int mgl, .int mhd, .int mre, .int mag, .int mkt, .int mho, .int mpc, .int msd, .int mki, .ref mk, .ref ma, .ref mo, .ref mg, .ref mm, .ref mt, .int mdn, .int mun, .ref mn, .int 0, .ref me, .ref mq, .int msv, .ref mwo, .ref md, .ref mf, .ref mr])), (ma, .inl (cI, 40, .inl b1)), (mo, .inl (cI, 81, .inl b2)), (mg, .inl (cI, 81, .inl fr)), (mk, .inl (cI, 40, .inl fk)), (mn, .inl (cZ, 40, .inl z))] H := hP
    have hD : va_D A [(mx, .inr (11, [.int ml, .int mw, .ref ms, .int mgl, .int mhd, .int mre, .int mag, .int mkt, .int mho, .int mpc, .int msd, .int mki, .ref mk, .ref ma, .ref mo, .ref mg, .ref mm, .ref mt, .int mdn, .int mun, .ref mn, .int 0, .ref me, .ref mq, .int msv, .ref mwo, .ref md, .ref mf, .ref mr])), (ma, .inl (cI, 40, .inl b1)), (mo, .inl (cI, 81, .inl b2)), (mg, .inl (cI, 81, .inl fr)), (mk, .inl (cI, 40, .inl fk)), (mn, .inl (cZ, 40, .inl z))] := hD
    refine lv_iconst (v := 0) hx hb dX11_make_73 (by decide) ?_
    refine lv_istore (lv' := [(5, .int 0), (4, .int r_9), (0, .ref mx), (1, .int p1), (2, .int p2), (3, .int p3)]) hx hb dX11_make_74 hl (by decide) rfl (fun ls hl => ?_)
    refine kt_loop (σ := Nat × (Nat → Int32)) 76 7 (fun u => [(mx, .inr (11, [.int ml, .int mw, .ref ms, .int mgl, .int mhd, .int mre, .int mag, .int mkt, .int mho, .int mpc, .int msd, .int mki, .ref mk, .ref ma, .ref mo, .ref mg, .ref mm, .ref mt, .int mdn, .int mun, .ref mn, .int 0, .ref me, .ref mq, .int msv, .ref mwo, .ref md, .ref mf, .ref mr])), (ma, .inl (cI, 40, .inl b1)), (mo, .inl (cI, 81, .inl b2)), (mg, .inl (cI, 81, .inl fr)), (mk, .inl (cI, 40, .inl fk)), (mn, .inl (cZ, 40, .inl u.2))]) (fun u => [(5, .int (nI u.1)), (4, .int r_9), (0, .ref mx), (1, .int p1), (2, .int p2), (3, .int p3)]) (fun n u => (u.1 ≤ 4 ∧ 4 < u.1 + n ∧ (1 ≤ u.1 → kt_tks mkt (fk p1.toNatClampNeg))) ∧ ∀ j, j < P_ → (¬ u.2 j = 0 ↔ ∃ b : Nat, b < u.1 ∧ kt_vic b2 fr fk mkt mhd mw.toInt ml.toInt p1.toNatClampNeg r_9.toInt b j)) (fun u h => by omega) (fun n_76 ih_76 u hI H locs hP hD hS ls hl => ?_) (5) (0, z) (by show (0 ≤ 4 ∧ 4 < 0 + 5 ∧ (1 ≤ 0 → kt_tks mkt (fk p1.toNatClampNeg))) ∧ ∀ j, j < P_ → (¬ z j = 0 ↔ ∃ b : Nat, b < 0 ∧ kt_vic b2 fr fk mkt mhd mw.toInt ml.toInt p1.toNatClampNeg r_9.toInt b j); exact ⟨⟨by decide, by decide, fun h => by omega⟩, fun j hj => ⟨fun h => absurd (hz j (by omega)) h, fun ⟨b, hb, _⟩ => absurd hb (Nat.not_lt_zero b)⟩⟩) hP hD hS (lv_sub hl [0, 1, 2, 3, 4, 5] rfl)
    obtain ⟨w, y⟩ := u
    have hP : va_P D vwCl [(mx, .inr (11, [.int ml, .int mw, .ref ms, .int mgl, .int mhd, .int mre, .int mag, .int mkt, .int mho, .int mpc, .int msd, .int mki, .ref mk, .ref ma, .ref mo, .ref mg, .ref mm, .ref mt, .int mdn, .int mun, .ref mn, .int 0, .ref me, .ref mq, .int msv, .ref mwo, .ref md, .ref mf, .ref mr])), (ma, .inl (cI, 40, .inl b1)), (mo, .inl (cI, 81, .inl b2)), (mg, .inl (cI, 81, .inl fr)), (mk, .inl (cI, 40, .inl fk)), (mn, .inl (cZ, 40, .inl y))] H := hP
    have hD : va_D A [(mx, .inr (11, [.int ml, .int mw, .ref ms, .int mgl, .int mhd, .int mre, .int mag, .int mkt, .int mho, .int mpc, .int msd, .int mki, .ref mk, .ref ma, .ref mo, .ref mg, .ref mm, .ref mt, .int mdn, .int mun, .ref mn, .int 0, .ref me, .ref mq, .int msv, .ref mwo, .ref md, .ref mf, .ref mr])), (ma, .inl (cI, 40, .inl b1)), (mo, .inl (cI, 81, .inl b2)), (mg, .inl (cI, 81, .inl fr)), (mk, .inl (cI, 40, .inl fk)), (mn, .inl (cZ, 40, .inl y))] := hD
    have hl : lv_has ls 7 [(5, .int (nI w)), (4, .int r_9), (0, .ref mx), (1, .int p1), (2, .int p2), (3, .int p3)] := hl
    have hI : (w ≤ 4 ∧ 4 < w + (n_76 + 1) ∧ (1 ≤ w → kt_tks mkt (fk p1.toNatClampNeg))) ∧ ∀ j, j < P_ → (¬ y j = 0 ↔ ∃ b : Nat, b < w ∧ kt_vic b2 fr fk mkt mhd mw.toInt ml.toInt p1.toNatClampNeg r_9.toInt b j) := hI
    obtain ⟨hwb, hy⟩ := hI
    have hw0 := kt_nI (n := w) (by omega)
    refine lv_iload hx hb dX11_make_76 (lv_at hl 0 rfl) ?_
    refine lv_iconst (v := 4) hx hb dX11_make_78 (by decide) ?_
    refine kt_join (σ := Unit) 171 7 (fun u => [(mx, .inr (11, [.int ml, .int mw, .ref ms, .int mgl, .int mhd, .int mre, .int mag, .int mkt, .int mho, .int mpc, .int msd, .int mki, .ref mk, .ref ma, .ref mo, .ref mg, .ref mm, .ref mt, .int mdn, .int mun, .ref mn, .int 0, .ref me, .ref mq, .int msv, .ref mwo, .ref md, .ref mf, .ref mr])), (ma, .inl (cI, 40, .inl b1)), (mo, .inl (cI, 81, .inl b2)), (mg, .inl (cI, 81, .inl fr)), (mk, .inl (cI, 40, .inl fk)), (mn, .inl (cZ, 40, .inl y))]) (fun u => [(5, .int (nI w)), (4, .int r_9), (0, .ref mx), (1, .int p1), (2, .int p2), (3, .int p3)]) (fun u => []) (fun u => ∀ j, j < P_ → (¬ y j = 0 ↔ kt_tks mkt (fk p1.toNatClampNeg) ∧ ∃ b : Nat, b < 4 ∧ kt_vic b2 fr fk mkt mhd mw.toInt ml.toInt p1.toNatClampNeg r_9.toInt b j)) (D := D) (A := A) (H0 := s.heap) (fun u hI H locs hP hD hS ls hl => ?_) (fun j_171 => ?_)
    · have hP : va_P D vwCl [(mx, .inr (11, [.int ml, .int mw, .ref ms, .int mgl, .int mhd, .int mre, .int mag, .int mkt, .int mho, .int mpc, .int msd, .int mki, .ref mk, .ref ma, .ref mo, .ref mg, .ref mm, .ref mt, .int mdn, .int mun, .ref mn, .int 0, .ref me, .ref mq, .int msv, .ref mwo, .ref md, .ref mf, .ref mr])), (ma, .inl (cI, 40, .inl b1)), (mo, .inl (cI, 81, .inl b2)), (mg, .inl (cI, 81, .inl fr)), (mk, .inl (cI, 40, .inl fk)), (mn, .inl (cZ, 40, .inl y))] H := hP
      have hD : va_D A [(mx, .inr (11, [.int ml, .int mw, .ref ms, .int mgl, .int mhd, .int mre, .int mag, .int mkt, .int mho, .int mpc, .int msd, .int mki, .ref mk, .ref ma, .ref mo, .ref mg, .ref mm, .ref mt, .int mdn, .int mun, .ref mn, .int 0, .ref me, .ref mq, .int msv, .ref mwo, .ref md, .ref mf, .ref mr])), (ma, .inl (cI, 40, .inl b1)), (mo, .inl (cI, 81, .inl b2)), (mg, .inl (cI, 81, .inl fr)), (mk, .inl (cI, 40, .inl fk)), (mn, .inl (cZ, 40, .inl y))] := hD
      have hl : lv_has ls 7 [(5, .int (nI w)), (4, .int r_9), (0, .ref mx), (1, .int p1), (2, .int p2), (3, .int p3)] := hl
      have hI : ∀ j, j < P_ → (¬ y j = 0 ↔ kt_tks mkt (fk p1.toNatClampNeg) ∧ ∃ b : Nat, b < 4 ∧ kt_vic b2 fr fk mkt mhd mw.toInt ml.toInt p1.toNatClampNeg r_9.toInt b j) := hI
      have hyv := hI
      refine lv_iconst (v := 0) hx hb dX11_make_171 (by decide) ?_
      refine lv_istore (lv' := [(5, .int 0), (4, .int r_9), (0, .ref mx), (1, .int p1), (2, .int p2), (3, .int p3)]) hx hb dX11_make_172 hl (by decide) rfl (fun ls hl => ?_)
      refine kt_loop (σ := Nat × Int32 × (Nat → Int32) × (Nat → Int32)) 174 7 (fun u => [(mx, .inr (11, [.int ml, .int mw, .ref ms, .int mgl, .int mhd, .int mre, .int mag, .int mkt, .int mho, .int mpc, .int msd, .int mki, .ref mk, .ref ma, .ref mo, .ref mg, .ref mm, .ref mt, .int mdn, .int mun, .ref mn, .int u.2.1, .ref me, .ref mq, .int msv, .ref mwo, .ref md, .ref mf, .ref mr])), (ma, .inl (cI, 40, .inl u.2.2.1)), (mo, .inl (cI, 81, .inl u.2.2.2)), (mg, .inl (cI, 81, .inl fr)), (mk, .inl (cI, 40, .inl fk)), (mn, .inl (cZ, 40, .inl y))]) (fun u => [(5, .int (nI u.1)), (4, .int r_9), (0, .ref mx), (1, .int p1), (2, .int p2), (3, .int p3)]) (fun n u => (u.1 ≤ 40 ∧ 40 < u.1 + n ∧ u.1 ≤ P_) ∧ kt_r u.2.2.1 P_ (-1) (ml.toInt * mw.toInt - 1) ∧ (kt_con u.2.2.2 u.2.2.1 P_ ∧ kt_coc u.2.2.2 u.2.2.1 P_) ∧ (∀ j, j < P_ → u.2.2.1 j = if j < u.1 ∧ ¬ y j = 0 then -1 else b1 j) ∧ (∀ j, u.1 ≤ j → j < P_ → ¬ y j = 0 → 0 ≤ (u.2.2.1 j).toInt) ∧ u.2.1 = nI (kt_ct kt_nz y u.1)) (fun u h => by omega) (fun n_174 ih_174 u hI H locs hP hD hS ls hl => ?_) (41) (0, (0 : Int32), b1, b2) (by show (0 ≤ 40 ∧ 40 < 0 + 41 ∧ 0 ≤ P_) ∧ kt_r b1 P_ (-1) (ml.toInt * mw.toInt - 1) ∧ (kt_con b2 b1 P_ ∧ kt_coc b2 b1 P_) ∧ (∀ j, j < P_ → b1 j = if j < 0 ∧ ¬ y j = 0 then -1 else b1 j) ∧ (∀ j, 0 ≤ j → j < P_ → ¬ y j = 0 → 0 ≤ (b1 j).toInt) ∧ (0 : Int32) = nI (kt_ct kt_nz y 0); refine ⟨⟨by decide, by decide, by omega⟩, hfb, ⟨hcb, hkb2⟩, fun j hj => (if_neg (fun h => absurd h.1 (Nat.not_lt_zero j))).symm, fun j _ hj hne => ?_, rfl⟩; obtain ⟨b, hb, hv⟩ := ((hyv j hj).mp hne).2; rcases kt_al_r (a := (b : Int)) (n := 1) hmw hml_ (show 0 ≤ r_9.toInt ∧ r_9.toInt < ml.toInt * mw.toInt by omega) (by omega) with h | h; exact absurd h.1 hv.1; obtain ⟨qq, hq, e1, e2⟩ := hcb _ (show (kt_al r_9.toInt mw.toInt ml.toInt b 1).toNat < 81 by omega) (by rw [hv.2.1]; exact kt_nIm1 (by omega)); rw [hv.2.1] at e1; rw [kt_nIinj (by omega) (by omega) e1, e2, kt_nI (by omega)]; omega) hP hD hS (lv_sub hl [0, 1, 2, 3, 4, 5] rfl)
      obtain ⟨i, tk, g1, g2⟩ := u
      have hP : va_P D vwCl [(mx, .inr (11, [.int ml, .int mw, .ref ms, .int mgl, .int mhd, .int mre, .int mag, .int mkt, .int mho, .int mpc, .int msd, .int mki, .ref mk, .ref ma, .ref mo, .ref mg, .ref mm, .ref mt, .int mdn, .int mun, .ref mn, .int tk, .ref me, .ref mq, .int msv, .ref mwo, .ref md, .ref mf, .ref mr])), (ma, .inl (cI, 40, .inl g1)), (mo, .inl (cI, 81, .inl g2)), (mg, .inl (cI, 81, .inl fr)), (mk, .inl (cI, 40, .inl fk)), (mn, .inl (cZ, 40, .inl y))] H := hP
      have hD : va_D A [(mx, .inr (11, [.int ml, .int mw, .ref ms, .int mgl, .int mhd, .int mre, .int mag, .int mkt, .int mho, .int mpc, .int msd, .int mki, .ref mk, .ref ma, .ref mo, .ref mg, .ref mm, .ref mt, .int mdn, .int mun, .ref mn, .int tk, .ref me, .ref mq, .int msv, .ref mwo, .ref md, .ref mf, .ref mr])), (ma, .inl (cI, 40, .inl g1)), (mo, .inl (cI, 81, .inl g2)), (mg, .inl (cI, 81, .inl fr)), (mk, .inl (cI, 40, .inl fk)), (mn, .inl (cZ, 40, .inl y))] := hD
      have hl : lv_has ls 7 [(5, .int (nI i)), (4, .int r_9), (0, .ref mx), (1, .int p1), (2, .int p2), (3, .int p3)] := hl
      have hI : (i ≤ 40 ∧ 40 < i + (n_174 + 1) ∧ i ≤ P_) ∧ kt_r g1 P_ (-1) (ml.toInt * mw.toInt - 1) ∧ (kt_con g2 g1 P_ ∧ kt_coc g2 g1 P_) ∧ (∀ j, j < P_ → g1 j = if j < i ∧ ¬ y j = 0 then -1 else b1 j) ∧ (∀ j, i ≤ j → j < P_ → ¬ y j = 0 → 0 ≤ (g1 j).toInt) ∧ tk = nI (kt_ct kt_nz y i) := hI
      obtain ⟨hib, hfg, hcg, hgj, hyg, htk⟩ := hI
      have hi0 := kt_nI (n := i) (by omega)
      refine lv_iload hx hb dX11_make_174 (lv_at hl 0 rfl) ?_
      refine lv_aload_n hx hb dX11_make_176 rfl (lv_at hl 2 rfl) ?_
      refine va_get (D := D) (ci := 11) (C := RX11) (T := TX11) (N := 29) hx hb hts iw_X11_make_X11 hown hK hP 0 rfl rfl 9 (by decide) (hts (.fieldLink RX11 103 "KingTableModel" "pieces" "I") (kt_wp_X11_make__X11_make_r1 kt_wm2)) (fun _ h9 => h9) rfl dX11_make_177 ?_
      refine lv_icmp_ge (tgt := 233) hx hb dX11_make_180 (by decide) (fun c_180 => ?_) (fun c_180 => ?_)
      · have d_180 := c_180
        simp only [kt_lt, kt_le, kt_eq, kt_c0, kt_c1, kt_c2, kt_c3, kt_c4, kt_c8, kt_c9, kt_cm1, kt_c81, kt_c40, kt_c7, kt_c5, kt_c6, kt_c512, kt_c10, kt_c10000] at d_180
        refine lv_aload_n hx hb dX11_make_233 rfl (lv_at hl 2 rfl) ?_
        refine lv_iconst (v := 1) hx hb dX11_make_234 (by decide) ?_
        refine lv_aload_n hx hb dX11_make_235 rfl (lv_at hl 2 rfl) ?_
        refine va_get (D := D) (ci := 11) (C := RX11) (T := TX11) (N := 29) hx hb hts iw_X11_make_X11 hown hK hP 0 rfl rfl 10 (by decide) (hts (.fieldLink RX11 126 "KingTableModel" "side" "I") (kt_wp_X11_make__X11_make_r1 kt_wm5)) (fun _ h9 => h9) rfl dX11_make_236 ?_
        refine lv_isub hx hb dX11_make_239 ?_
        refine lv_topi (fun t_239 et_239 => ?_)
        first | have hk_239 := kt_subx et_239 (by first | omega | (simp only [kt_c0, kt_c1, kt_c2, kt_c3, kt_c4, kt_c8, kt_c9, kt_cm1, kt_c81, kt_c40, kt_c7, kt_c5, kt_c6, kt_c512, kt_c10, kt_c10000]; omega)) (by first | omega | (simp only [kt_c0, kt_c1, kt_c2, kt_c3, kt_c4, kt_c8, kt_c9, kt_cm1, kt_c81, kt_c40, kt_c7, kt_c5, kt_c6, kt_c512, kt_c10, kt_c10000]; omega)) | obtain ⟨k_239, hk_239, hm_239, hM_239⟩ := kt_subk et_239
        try simp only [kt_c0, kt_c1, kt_c2, kt_c3, kt_c4, kt_c8, kt_c9, kt_cm1, kt_c81, kt_c40, kt_c7, kt_c5, kt_c6, kt_c512, kt_c10, kt_c10000] at hk_239
        refine va_put (D := D) (ci := 11) (v := .int t_239) (ty := .int) (C := RX11) (T := TX11) (N := 29) hx hb hts iw_X11_make_X11 tyX11 tyX11_ok nmX11 hown hK hP hD hS 0 rfl rfl 10 (by decide) (hts (.fieldLink RX11 126 "KingTableModel" "side" "I") (kt_wp_X11_make__X11_make_r1 kt_wm5)) (fun _ h9 => h9) rfl (by decide +kernel) rfl rfl (Nat.le_of_ble_eq_true rfl) dX11_make_240 (fun H locs hP hD hS => ?_)
        have hP : va_P D vwCl [(mx, .inr (11, [.int ml, .int mw, .ref ms, .int mgl, .int mhd, .int mre, .int mag, .int mkt, .int mho, .int mpc, .int t_239, .int mki, .ref mk, .ref ma, .ref mo, .ref mg, .ref mm, .ref mt, .int mdn, .int mun, .ref mn, .int tk, .ref me, .ref mq, .int msv, .ref mwo, .ref md, .ref mf, .ref mr])), (ma, .inl (cI, 40, .inl g1)), (mo, .inl (cI, 81, .inl g2)), (mg, .inl (cI, 81, .inl fr)), (mk, .inl (cI, 40, .inl fk)), (mn, .inl (cZ, 40, .inl y))] H := hP
        have hD : va_D A [(mx, .inr (11, [.int ml, .int mw, .ref ms, .int mgl, .int mhd, .int mre, .int mag, .int mkt, .int mho, .int mpc, .int t_239, .int mki, .ref mk, .ref ma, .ref mo, .ref mg, .ref mm, .ref mt, .int mdn, .int mun, .ref mn, .int tk, .ref me, .ref mq, .int msv, .ref mwo, .ref md, .ref mf, .ref mr])), (ma, .inl (cI, 40, .inl g1)), (mo, .inl (cI, 81, .inl g2)), (mg, .inl (cI, 81, .inl fr)), (mk, .inl (cI, 40, .inl fk)), (mn, .inl (cZ, 40, .inl y))] := hD
        exact kt_rv (g1, g2, y, tk, t_239) hx hb hr hlk hS dX11_make_243 hP hD (by show (kt_r g1 P_ (-1) (ml.toInt * mw.toInt - 1) ∧ kt_con g2 g1 P_ ∧ kt_coc g2 g1 P_) ∧ (t_239 = 1 - msd ∧ 0 ≤ t_239.toInt ∧ t_239.toInt ≤ 1) ∧ kt_cut P_ g1 = kt_mk P_ mw.toInt ml.toInt fr fk mkt mhd (kt_cut P_ fa) p1.toNatClampNeg p2.toInt p3.toInt ∧ tk = nI (kt_ct kt_nz y P_); (have hiP : i = P_ := by omega); (rw [hiP] at hgj htk); exact ⟨⟨hfg, hcg⟩, ⟨et_239, by omega⟩, kt_mk_of (t := r_9.toInt) (by omega) hmw hml_ (show p1.toInt.toNat < P_ by omega) hw_9 (by omega) hb1 hcb hkb2 hyv (fun j hj => by rw [hgj j hj]; exact if e : y j = 0 then (by rw [if_pos e, if_neg (fun h => h.2 e)]) else (by rw [if_neg e, if_pos ⟨hj, e⟩])), htk⟩)
      · have d_180 := c_180
        simp only [kt_lt, kt_le, kt_eq, kt_c0, kt_c1, kt_c2, kt_c3, kt_c4, kt_c8, kt_c9, kt_cm1, kt_c81, kt_c40, kt_c7, kt_c5, kt_c6, kt_c512, kt_c10, kt_c10000] at d_180
        refine lv_aload_n hx hb dX11_make_183 rfl (lv_at hl 2 rfl) ?_
        refine va_get (D := D) (ci := 11) (C := RX11) (T := TX11) (N := 29) hx hb hts iw_X11_make_X11 hown hK hP 0 rfl rfl 20 (by decide) (hts (.fieldLink RX11 47 "KingTableModel" "taken" "[Z") (kt_wp_X11_make__X11_make_r1 kt_wm3)) (fun _ h9 => h9) rfl dX11_make_184 ?_
        refine lv_iload hx hb dX11_make_187 (lv_at hl 0 rfl) ?_
        have hi_6 : vp_in (nI i) 40 := by exact kt_in (by omega) (by omega)
        refine va_zald hx hb hK hP 5 1 rfl rfl hi_6 dX11_make_189 ?_
        refine lv_topi (fun a_189 ea_189 => ?_)
        refine lv_if_ne (tgt := 196) hx hb dX11_make_190 (by decide) (fun c_190 => ?_) (fun c_190 => ?_)
        · have d_190 := c_190
          simp only [kt_lt, kt_le, kt_eq, kt_c0, kt_c1, kt_c2, kt_c3, kt_c4, kt_c8, kt_c9, kt_cm1, kt_c81, kt_c40, kt_c7, kt_c5, kt_c6, kt_c512, kt_c10, kt_c10000] at d_190
          have hg6 := hyg i (Nat.le_refl i) (by omega) (by rw [← nI_clamp (n := i) (by omega), ← ea_189]; exact c_190)
          have hr6 := hfg i (by omega)
          refine lv_aload_n hx hb dX11_make_196 rfl (lv_at hl 2 rfl) ?_
          refine va_get (D := D) (ci := 11) (C := RX11) (T := TX11) (N := 29) hx hb hts iw_X11_make_X11 hown hK hP 0 rfl rfl 14 (by decide) (hts (.fieldLink RX11 33 "KingTableModel" "on" "[I") (kt_wp_X11_make__X11_make_r1 kt_wm1)) (fun _ h9 => h9) rfl dX11_make_197 ?_
          refine lv_aload_n hx hb dX11_make_200 rfl (lv_at hl 2 rfl) ?_
          refine va_get (D := D) (ci := 11) (C := RX11) (T := TX11) (N := 29) hx hb hts iw_X11_make_X11 hown hK hP 0 rfl rfl 13 (by decide) (hts (.fieldLink RX11 30 "KingTableModel" "at" "[I") (kt_wp_X11_make__X11_make_r1 kt_wm0)) (fun _ h9 => h9) rfl dX11_make_201 ?_
          refine lv_iload hx hb dX11_make_204 (lv_at hl 0 rfl) ?_
          have hi_7 : vp_in (nI i) 40 := by exact kt_in (by omega) (by omega)
          refine va_iald hx hb hK hP 1 0 rfl rfl hi_7 dX11_make_206 ?_
          refine lv_topi (fun a_206 ea_206 => ?_)
          rw [nI_clamp (by omega)] at ea_206
          have hr206 := congrArg Int32.toInt ea_206
          refine lv_iconst (v := (-1)) hx hb dX11_make_207 (by decide) ?_
          have hi_8 : vp_in a_206 81 := by exact kt_in (by omega) (by omega)
          refine va_iast hx hb hK hP hD hS 2 0 rfl rfl hi_8 dX11_make_208 (fun H locs hP hD hS => ?_)
          have hP : va_P D vwCl [(mx, .inr (11, [.int ml, .int mw, .ref ms, .int mgl, .int mhd, .int mre, .int mag, .int mkt, .int mho, .int mpc, .int msd, .int mki, .ref mk, .ref ma, .ref mo, .ref mg, .ref mm, .ref mt, .int mdn, .int mun, .ref mn, .int tk, .ref me, .ref mq, .int msv, .ref mwo, .ref md, .ref mf, .ref mr])), (ma, .inl (cI, 40, .inl g1)), (mo, .inl (cI, 81, .inl (upd g2 a_206.toNatClampNeg (-1)))), (mg, .inl (cI, 81, .inl fr)), (mk, .inl (cI, 40, .inl fk)), (mn, .inl (cZ, 40, .inl y))] H := hP
          have hD : va_D A [(mx, .inr (11, [.int ml, .int mw, .ref ms, .int mgl, .int mhd, .int mre, .int mag, .int mkt, .int mho, .int mpc, .int msd, .int mki, .ref mk, .ref ma, .ref mo, .ref mg, .ref mm, .ref mt, .int mdn, .int mun, .ref mn, .int tk, .ref me, .ref mq, .int msv, .ref mwo, .ref md, .ref mf, .ref mr])), (ma, .inl (cI, 40, .inl g1)), (mo, .inl (cI, 81, .inl (upd g2 a_206.toNatClampNeg (-1)))), (mg, .inl (cI, 81, .inl fr)), (mk, .inl (cI, 40, .inl fk)), (mn, .inl (cZ, 40, .inl y))] := hD
          refine lv_aload_n hx hb dX11_make_209 rfl (lv_at hl 2 rfl) ?_
          refine va_get (D := D) (ci := 11) (C := RX11) (T := TX11) (N := 29) hx hb hts iw_X11_make_X11 hown hK hP 0 rfl rfl 13 (by decide) (hts (.fieldLink RX11 30 "KingTableModel" "at" "[I") (kt_wp_X11_make__X11_make_r1 kt_wm0)) (fun _ h9 => h9) rfl dX11_make_210 ?_
          refine lv_iload hx hb dX11_make_213 (lv_at hl 0 rfl) ?_
          refine lv_iconst (v := (-1)) hx hb dX11_make_215 (by decide) ?_
          have hi_9 : vp_in (nI i) 40 := by exact kt_in (by omega) (by omega)
          refine va_iast hx hb hK hP hD hS 1 0 rfl rfl hi_9 dX11_make_216 (fun H locs hP hD hS => ?_)
          have hP : va_P D vwCl [(mx, .inr (11, [.int ml, .int mw, .ref ms, .int mgl, .int mhd, .int mre, .int mag, .int mkt, .int mho, .int mpc, .int msd, .int mki, .ref mk, .ref ma, .ref mo, .ref mg, .ref mm, .ref mt, .int mdn, .int mun, .ref mn, .int tk, .ref me, .ref mq, .int msv, .ref mwo, .ref md, .ref mf, .ref mr])), (ma, .inl (cI, 40, .inl (upd g1 (nI i).toNatClampNeg (-1)))), (mo, .inl (cI, 81, .inl (upd g2 a_206.toNatClampNeg (-1)))), (mg, .inl (cI, 81, .inl fr)), (mk, .inl (cI, 40, .inl fk)), (mn, .inl (cZ, 40, .inl y))] H := hP
          have hD : va_D A [(mx, .inr (11, [.int ml, .int mw, .ref ms, .int mgl, .int mhd, .int mre, .int mag, .int mkt, .int mho, .int mpc, .int msd, .int mki, .ref mk, .ref ma, .ref mo, .ref mg, .ref mm, .ref mt, .int mdn, .int mun, .ref mn, .int tk, .ref me, .ref mq, .int msv, .ref mwo, .ref md, .ref mf, .ref mr])), (ma, .inl (cI, 40, .inl (upd g1 (nI i).toNatClampNeg (-1)))), (mo, .inl (cI, 81, .inl (upd g2 a_206.toNatClampNeg (-1)))), (mg, .inl (cI, 81, .inl fr)), (mk, .inl (cI, 40, .inl fk)), (mn, .inl (cZ, 40, .inl y))] := hD
          refine lv_aload_n hx hb dX11_make_217 rfl (lv_at hl 2 rfl) ?_
          refine lv_dup hx hb dX11_make_218 rfl ?_
          refine va_get (D := D) (ci := 11) (C := RX11) (T := TX11) (N := 29) hx hb hts iw_X11_make_X11 hown hK hP 0 rfl rfl 21 (by decide) (hts (.fieldLink RX11 120 "KingTableModel" "tookMany" "I") (kt_wp_X11_make__X11_make_r1 kt_wm4)) (fun _ h9 => h9) rfl dX11_make_219 ?_
          refine lv_iconst (v := 1) hx hb dX11_make_222 (by decide) ?_
          refine lv_iadd hx hb dX11_make_223 ?_
          refine lv_topi (fun t_223 et_223 => ?_)
          first | have hk_223 := kt_addx et_223 (by first | omega | (simp only [kt_c0, kt_c1, kt_c2, kt_c3, kt_c4, kt_c8, kt_c9, kt_cm1, kt_c81, kt_c40, kt_c7, kt_c5, kt_c6, kt_c512, kt_c10, kt_c10000]; omega)) (by first | omega | (simp only [kt_c0, kt_c1, kt_c2, kt_c3, kt_c4, kt_c8, kt_c9, kt_cm1, kt_c81, kt_c40, kt_c7, kt_c5, kt_c6, kt_c512, kt_c10, kt_c10000]; omega)) | obtain ⟨k_223, hk_223, hm_223, hM_223⟩ := kt_addk et_223
          try simp only [kt_c0, kt_c1, kt_c2, kt_c3, kt_c4, kt_c8, kt_c9, kt_cm1, kt_c81, kt_c40, kt_c7, kt_c5, kt_c6, kt_c512, kt_c10, kt_c10000] at hk_223
          refine va_put (D := D) (ci := 11) (v := .int t_223) (ty := .int) (C := RX11) (T := TX11) (N := 29) hx hb hts iw_X11_make_X11 tyX11 tyX11_ok nmX11 hown hK hP hD hS 0 rfl rfl 21 (by decide) (hts (.fieldLink RX11 120 "KingTableModel" "tookMany" "I") (kt_wp_X11_make__X11_make_r1 kt_wm4)) (fun _ h9 => h9) rfl (by decide +kernel) rfl rfl (Nat.le_of_ble_eq_true rfl) dX11_make_224 (fun H locs hP hD hS => ?_)
          have hP : va_P D vwCl [(mx, .inr (11, [.int ml, .int mw, .ref ms, .int mgl, .int mhd, .int mre, .int mag, .int mkt, .int mho, .int mpc, .int msd, .int mki, .ref mk, .ref ma, .ref mo, .ref mg, .ref mm, .ref mt, .int mdn, .int mun, .ref mn, .int t_223, .ref me, .ref mq, .int msv, .ref mwo, .ref md, .ref mf, .ref mr])), (ma, .inl (cI, 40, .inl (upd g1 (nI i).toNatClampNeg (-1)))), (mo, .inl (cI, 81, .inl (upd g2 a_206.toNatClampNeg (-1)))), (mg, .inl (cI, 81, .inl fr)), (mk, .inl (cI, 40, .inl fk)), (mn, .inl (cZ, 40, .inl y))] H := hP
          have hD : va_D A [(mx, .inr (11, [.int ml, .int mw, .ref ms, .int mgl, .int mhd, .int mre, .int mag, .int mkt, .int mho, .int mpc, .int msd, .int mki, .ref mk, .ref ma, .ref mo, .ref mg, .ref mm, .ref mt, .int mdn, .int mun, .ref mn, .int t_223, .ref me, .ref mq, .int msv, .ref mwo, .ref md, .ref mf, .ref mr])), (ma, .inl (cI, 40, .inl (upd g1 (nI i).toNatClampNeg (-1)))), (mo, .inl (cI, 81, .inl (upd g2 a_206.toNatClampNeg (-1)))), (mg, .inl (cI, 81, .inl fr)), (mk, .inl (cI, 40, .inl fk)), (mn, .inl (cZ, 40, .inl y))] := hD
          refine lv_iinc (v := nI (i + 1)) (lv' := [(5, .int (nI (i + 1))), (4, .int r_9), (0, .ref mx), (1, .int p1), (2, .int p2), (3, .int p3)]) hx hb dX11_make_227 hl (k := 0) rfl (nI_1 _) (by decide) rfl (fun ls hl => ?_)
          refine lv_goto (tgt := 174) hx hb dX11_make_230 (by decide) ?_
          exact ih_174 ((i + 1), t_223, (upd g1 (nI i).toNatClampNeg (-1)), (upd g2 a_206.toNatClampNeg (-1))) (by show ((i + 1) ≤ 40 ∧ 40 < (i + 1) + n_174 ∧ (i + 1) ≤ P_) ∧ kt_r (upd g1 (nI i).toNatClampNeg (-1)) P_ (-1) (ml.toInt * mw.toInt - 1) ∧ (kt_con (upd g2 a_206.toNatClampNeg (-1)) (upd g1 (nI i).toNatClampNeg (-1)) P_ ∧ kt_coc (upd g2 a_206.toNatClampNeg (-1)) (upd g1 (nI i).toNatClampNeg (-1)) P_) ∧ (∀ j, j < P_ → (upd g1 (nI i).toNatClampNeg (-1)) j = if j < (i + 1) ∧ ¬ y j = 0 then -1 else b1 j) ∧ (∀ j, (i + 1) ≤ j → j < P_ → ¬ y j = 0 → 0 ≤ ((upd g1 (nI i).toNatClampNeg (-1)) j).toInt) ∧ t_223 = nI (kt_ct kt_nz y (i + 1)); first
                        | (have hyi : y i = 0 := by rw [← nI_clamp (n := i) (by omega), ← ea_189]; exact c_190
                           refine ⟨by omega, hfg, hcg, fun j hj => ?_, fun j hj => hyg j (by omega), ?_⟩
                           · rw [hgj j hj]
                             by_cases e : j = i
                             · subst e; rw [if_neg (by omega), if_neg (fun h => h.2 hyi)]
                             · by_cases e2 : j < i ∧ ¬ y j = 0
                               · rw [if_pos e2, if_pos ⟨by omega, e2.2⟩]
                               · rw [if_neg e2, if_neg (fun h => e2 ⟨by omega, h.2⟩)]
                           · rw [kt_ct_no (by unfold kt_nz; rw [hyi]; decide)]; exact htk)
                        | (have hyi : ¬ y i = 0 := by rw [← nI_clamp (n := i) (by omega), ← ea_189]; exact c_190
                           rw [nI_clamp (by omega)]
                           refine ⟨by omega, hfg.upd (by decide) (by rw [kt_cm1]; omega), ⟨hcg.1.drop (a := a_206.toInt.toNat) (by rw [← kt_nIof (x := a_206) (by omega), ea_206]) (by omega), hcg.2.drop (a := a_206.toInt.toNat) (by omega) (by omega) (by rw [← kt_nIof (x := a_206) (by omega), ea_206]) (by omega) (by decide)⟩, fun j hj => ?_, fun j hj hj2 hne => by rw [pk_un (by omega)]; exact hyg j (by omega) hj2 hne, ?_⟩
                           · by_cases e : j = i
                             · subst e; rw [pk_us, if_pos ⟨by omega, hyi⟩]
                             · rw [pk_un e, hgj j hj]
                               by_cases e2 : j < i ∧ ¬ y j = 0
                               · rw [if_pos e2, if_pos ⟨by omega, e2.2⟩]
                               · rw [if_neg e2, if_neg (fun h => e2 ⟨by omega, h.2⟩)]
                           · rw [kt_ct_yes (by unfold kt_nz; exact decide_eq_true hyi), et_223, htk]; exact nI_1 _)) H _ hP hD hS ls (lv_sub hl [0, 1, 2, 3, 4, 5] rfl)
        · have d_190 := c_190
          simp only [kt_lt, kt_le, kt_eq, kt_c0, kt_c1, kt_c2, kt_c3, kt_c4, kt_c8, kt_c9, kt_cm1, kt_c81, kt_c40, kt_c7, kt_c5, kt_c6, kt_c512, kt_c10, kt_c10000] at d_190
          refine lv_goto (tgt := 227) hx hb dX11_make_193 (by decide) ?_
          refine lv_iinc (v := nI (i + 1)) (lv' := [(5, .int (nI (i + 1))), (4, .int r_9), (0, .ref mx), (1, .int p1), (2, .int p2), (3, .int p3)]) hx hb dX11_make_227 hl (k := 0) rfl (nI_1 _) (by decide) rfl (fun ls hl => ?_)
          refine lv_goto (tgt := 174) hx hb dX11_make_230 (by decide) ?_
          exact ih_174 ((i + 1), tk, g1, g2) (by show ((i + 1) ≤ 40 ∧ 40 < (i + 1) + n_174 ∧ (i + 1) ≤ P_) ∧ kt_r g1 P_ (-1) (ml.toInt * mw.toInt - 1) ∧ (kt_con g2 g1 P_ ∧ kt_coc g2 g1 P_) ∧ (∀ j, j < P_ → g1 j = if j < (i + 1) ∧ ¬ y j = 0 then -1 else b1 j) ∧ (∀ j, (i + 1) ≤ j → j < P_ → ¬ y j = 0 → 0 ≤ (g1 j).toInt) ∧ tk = nI (kt_ct kt_nz y (i + 1)); first
                        | (have hyi : y i = 0 := by rw [← nI_clamp (n := i) (by omega), ← ea_189]; exact c_190
                           refine ⟨by omega, hfg, hcg, fun j hj => ?_, fun j hj => hyg j (by omega), ?_⟩
                           · rw [hgj j hj]
                             by_cases e : j = i
                             · subst e; rw [if_neg (by omega), if_neg (fun h => h.2 hyi)]
                             · by_cases e2 : j < i ∧ ¬ y j = 0
                               · rw [if_pos e2, if_pos ⟨by omega, e2.2⟩]
                               · rw [if_neg e2, if_neg (fun h => e2 ⟨by omega, h.2⟩)]
                           · rw [kt_ct_no (by unfold kt_nz; rw [hyi]; decide)]; exact htk)
                        | (have hyi : ¬ y i = 0 := by rw [← nI_clamp (n := i) (by omega), ← ea_189]; exact c_190
                           rw [nI_clamp (by omega)]
                           refine ⟨by omega, hfg.upd (by decide) (by rw [kt_cm1]; omega), ⟨hcg.1.drop (a := a_206.toInt.toNat) (by rw [← kt_nIof (x := a_206) (by omega), ea_206]) (by omega), hcg.2.drop (a := a_206.toInt.toNat) (by omega) (by omega) (by rw [← kt_nIof (x := a_206) (by omega), ea_206]) (by omega) (by decide)⟩, fun j hj => ?_, fun j hj hj2 hne => by rw [pk_un (by omega)]; exact hyg j (by omega) hj2 hne, ?_⟩
                           · by_cases e : j = i
                             · subst e; rw [pk_us, if_pos ⟨by omega, hyi⟩]
                             · rw [pk_un e, hgj j hj]
                               by_cases e2 : j < i ∧ ¬ y j = 0
                               · rw [if_pos e2, if_pos ⟨by omega, e2.2⟩]
                               · rw [if_neg e2, if_neg (fun h => e2 ⟨by omega, h.2⟩)]
                           · rw [kt_ct_yes (by unfold kt_nz; exact decide_eq_true hyi), et_223, htk]; exact nI_1 _)) H _ hP hD hS ls (lv_sub hl [0, 1, 2, 3, 4, 5] rfl)
    refine lv_icmp_ge (tgt := 171) hx hb dX11_make_79 (by decide) (fun c_79 => ?_) (fun c_79 => ?_)
    · have d_79 := c_79
      simp only [kt_lt, kt_le, kt_eq, kt_c0, kt_c1, kt_c2, kt_c3, kt_c4, kt_c8, kt_c9, kt_cm1, kt_c81, kt_c40, kt_c7, kt_c5, kt_c6, kt_c512, kt_c10, kt_c10000] at d_79
      exact j_171 () (by show ∀ j, j < P_ → (¬ y j = 0 ↔ kt_tks mkt (fk p1.toNatClampNeg) ∧ ∃ b : Nat, b < 4 ∧ kt_vic b2 fr fk mkt mhd mw.toInt ml.toInt p1.toNatClampNeg r_9.toInt b j); first | exact fun j hj => ⟨fun h => ⟨hwb.2.2 (by omega), by obtain ⟨b, hb, hv⟩ := (hy j hj).mp h; exact ⟨b, by omega, hv⟩⟩, fun ⟨_, b, hb, hv⟩ => (hy j hj).mpr ⟨b, by omega, hv⟩⟩ | exact fun j hj => ⟨fun h => by obtain ⟨b, hb, hv⟩ := (hy j hj).mp h; exact absurd (hwb.2.2 (by omega)) (hw_84.f c_87), fun h => absurd h.1 (hw_84.f c_87)⟩) H _ hP hD hS ls (lv_sub hl [0, 1, 2, 3, 4, 5] rfl)
    · have d_79 := c_79
      simp only [kt_lt, kt_le, kt_eq, kt_c0, kt_c1, kt_c2, kt_c3, kt_c4, kt_c8, kt_c9, kt_cm1, kt_c81, kt_c40, kt_c7, kt_c5, kt_c6, kt_c512, kt_c10, kt_c10000] at d_79
      refine lv_aload_n hx hb dX11_make_82 rfl (lv_at hl 2 rfl) ?_
      refine lv_iload_n hx hb dX11_make_83 rfl (lv_at hl 3 rfl) ?_
      refine kt_pi (wc := [(mx, .inr (11, [.int ml, .int mw, .ref ms, .int mgl, .int mhd, .int mre, .int mag, .int mkt, .int mho, .int mpc, .int msd, .int mki, .ref mk, .ref ma, .ref mo, .ref mg, .ref mm, .ref mt, .int mdn, .int mun, .ref mn, .int 0, .ref me, .ref mq, .int msv, .ref mwo, .ref md, .ref mf, .ref mr])), (mk, .inl (cI, 40, .inl fk))]) [0, 4] hP hD hS hA rfl (by decide) (fun hPc hDc => va_runV (As := [.int p1]) (rest := []) ⟨hx, hb, hml, hown, hts⟩ (c_X11_takesE l D cI cZ cB H.size mx ms mk ma mo mg mm mt mn me mq mwo md mf mr ml mw mgl mhd mre mag mkt mho mpc msd mki mdn mun 0 msv fk p1 (by first | assumption | omega | rfl | decide)) (cwV 1 hts gX11_make_X11_takes rfl rfl rfl (by decide +kernel) ⟨Nat.le_of_ble_eq_true rfl, Nat.le_of_ble_eq_true rfl⟩) (kt_preV hN hK hPc hDc 0 (ci := 11) (q := (RX11, TX11, 29)) rfl rfl) rfl rfl hl.1 rfl (lv_room (Nat.le_of_ble_eq_true rfl)) dX11_make_84 ⟨Nat.le_of_ble_eq_true rfl, Nat.le_of_ble_eq_true rfl⟩) (fun r_84 _ H locs hw_84 hP hS => ?_)
      refine lv_if_eq (tgt := 171) hx hb dX11_make_87 (by decide) (fun c_87 => ?_) (fun c_87 => ?_)
      · have d_87 := c_87
        simp only [kt_lt, kt_le, kt_eq, kt_c0, kt_c1, kt_c2, kt_c3, kt_c4, kt_c8, kt_c9, kt_cm1, kt_c81, kt_c40, kt_c7, kt_c5, kt_c6, kt_c512, kt_c10, kt_c10000] at d_87
        exact j_171 () (by show ∀ j, j < P_ → (¬ y j = 0 ↔ kt_tks mkt (fk p1.toNatClampNeg) ∧ ∃ b : Nat, b < 4 ∧ kt_vic b2 fr fk mkt mhd mw.toInt ml.toInt p1.toNatClampNeg r_9.toInt b j); first | exact fun j hj => ⟨fun h => ⟨hwb.2.2 (by omega), by obtain ⟨b, hb, hv⟩ := (hy j hj).mp h; exact ⟨b, by omega, hv⟩⟩, fun ⟨_, b, hb, hv⟩ => (hy j hj).mpr ⟨b, by omega, hv⟩⟩ | exact fun j hj => ⟨fun h => by obtain ⟨b, hb, hv⟩ := (hy j hj).mp h; exact absurd (hwb.2.2 (by omega)) (hw_84.f c_87), fun h => absurd h.1 (hw_84.f c_87)⟩) H _ hP hD hS ls (lv_sub hl [0, 1, 2, 3, 4, 5] rfl)
      · have d_87 := c_87
        simp only [kt_lt, kt_le, kt_eq, kt_c0, kt_c1, kt_c2, kt_c3, kt_c4, kt_c8, kt_c9, kt_cm1, kt_c81, kt_c40, kt_c7, kt_c5, kt_c6, kt_c512, kt_c10, kt_c10000] at d_87
        have htp := hw_84.t c_87
        refine lv_aload_n hx hb dX11_make_90 rfl (lv_at hl 2 rfl) ?_
        refine lv_iload hx hb dX11_make_91 (lv_at hl 1 rfl) ?_
        refine lv_iload hx hb dX11_make_93 (lv_at hl 0 rfl) ?_
        refine lv_iconst (v := 1) hx hb dX11_make_95 (by decide) ?_
        refine kt_pi (wc := [(mx, .inr (11, [.int ml, .int mw, .ref ms, .int mgl, .int mhd, .int mre, .int mag, .int mkt, .int mho, .int mpc, .int msd, .int mki, .ref mk, .ref ma, .ref mo, .ref mg, .ref mm, .ref mt, .int mdn, .int mun, .ref mn, .int 0, .ref me, .ref mq, .int msv, .ref mwo, .ref md, .ref mf, .ref mr]))]) [0] hP hD hS hA rfl (by decide) (fun hPc hDc => va_runV (As := [.int r_9, .int (nI w), .int 1]) (rest := []) ⟨hx, hb, hml, hown, hts⟩ (c_X11_alongE l D cI cZ cB H.size mx ms mk ma mo mg mm mt mn me mq mwo md mf mr ml mw mgl mhd mre mag mkt mho mpc msd mki mdn mun 0 msv r_9 (nI w) 1 hml_ hmw (by omega) (by decide)) (cwV 3 hts gX11_make_X11_along rfl rfl rfl (by decide +kernel) ⟨Nat.le_of_ble_eq_true rfl, Nat.le_of_ble_eq_true rfl⟩) (kt_preV hN hK hPc hDc 0 (ci := 11) (q := (RX11, TX11, 29)) rfl rfl) rfl rfl hl.1 rfl (lv_room (Nat.le_of_ble_eq_true rfl)) dX11_make_96 ⟨Nat.le_of_ble_eq_true rfl, Nat.le_of_ble_eq_true rfl⟩) (fun r_96 _ H locs hw_96 hP hS => ?_)
        rw [kt_c1, hw0] at hw_96
        have hal := kt_al_r (a := (w : Int)) (n := 1) hmw hml_ (show 0 ≤ r_9.toInt ∧ r_9.toInt < ml.toInt * mw.toInt by omega) (by omega)
        rw [← hw_96] at hal
        refine lv_istore (lv' := [(6, .int r_96), (5, .int (nI w)), (4, .int r_9), (0, .ref mx), (1, .int p1), (2, .int p2), (3, .int p3)]) hx hb dX11_make_99 hl (by decide) rfl (fun ls hl => ?_)
        refine lv_iload hx hb dX11_make_101 (lv_at hl 0 rfl) ?_
        refine lv_iconst (v := (-1)) hx hb dX11_make_103 (by decide) ?_
        refine lv_icmp_eq (tgt := 165) hx hb dX11_make_104 (by decide) (fun c_104 => ?_) (fun c_104 => ?_)
        · have d_104 := c_104
          simp only [kt_lt, kt_le, kt_eq, kt_c0, kt_c1, kt_c2, kt_c3, kt_c4, kt_c8, kt_c9, kt_cm1, kt_c81, kt_c40, kt_c7, kt_c5, kt_c6, kt_c512, kt_c10, kt_c10000] at d_104
          
          refine lv_iinc (v := nI (w + 1)) (lv' := [(5, .int (nI (w + 1))), (6, .int r_96), (4, .int r_9), (0, .ref mx), (1, .int p1), (2, .int p2), (3, .int p3)]) hx hb dX11_make_165 hl (k := 1) rfl (nI_1 _) (by decide) rfl (fun ls hl => ?_)
          refine lv_goto (tgt := 76) hx hb dX11_make_168 (by decide) ?_
          exact ih_76 ((w + 1), y) (by show ((w + 1) ≤ 4 ∧ 4 < (w + 1) + n_76 ∧ (1 ≤ (w + 1) → kt_tks mkt (fk p1.toNatClampNeg))) ∧ ∀ j, j < P_ → (¬ y j = 0 ↔ ∃ b : Nat, b < (w + 1) ∧ kt_vic b2 fr fk mkt mhd mw.toInt ml.toInt p1.toNatClampNeg r_9.toInt b j); refine ⟨⟨by omega, by omega, fun _ => htp⟩, fun j hj => ?_⟩; first
                        | exact (hy j hj).trans ⟨fun ⟨b, hb, hv⟩ => ⟨b, by omega, hv⟩, fun ⟨b, hb, hv⟩ => ⟨b, Nat.lt_of_le_of_ne (by omega) (fun e => by rw [e] at hv; first | exact hv.1 (by rw [← hw_96]; omega) | exact kt_nIm1 (a := j) (by omega) (hv.2.1.symm.trans (by rw [← hw_96]; exact ea_113.symm.trans c_115)) | (have e0 : b2 r_96.toInt.toNat = nI j := (by rw [hw_96]; exact hv.2.1); have e1 : a_113 = nI j := ea_113.trans e0; exact hv.2.2.1 (by have h9 := congrArg Int32.toInt c_134; rw [hw_126.1, hw_131.1, hq125, e1, nI_clamp (by omega)] at h9; exact h9))), hv⟩⟩
                        | exact if hjk : j = a_150.toNatClampNeg then (by
                            have hjn : a_158 = nI j := by rw [hjk, hq158, hq150]; exact hqn
                            have hV : kt_B r_161 (kt_vic b2 fr fk mkt mhd mw.toInt ml.toInt p1.toNatClampNeg r_9.toInt w j) := by
                              have h9 := hw_161; rw [hjn, nI_clamp (by omega), hw0] at h9
                              have h10 : (b1 j).toInt = r_96.toInt := by have h11 := hq113.2; rw [hjn, nI_clamp (by omega)] at h11; omega
                              rw [h10, hw_96] at h9
                              refine h9.iff ⟨fun h => ⟨by rw [← hw_96]; omega, by rw [← hw_96, ho113, hjk, hq150]; rfl, fun h2 => c_134 ((kt_eq _ _).mpr (by rw [hw_126.1, hw_131.1, hq125, ← hq158, hjn, nI_clamp (by omega)]; exact h2)), h⟩, fun h => h.2.2.2⟩
                            rw [hjk, pk_us, ← hjk]
                            rcases hV with ⟨h1, h2⟩ | ⟨h1, h2⟩
                            · exact ⟨fun _ => ⟨w, by omega, h2⟩, fun _ => by rw [h1]; decide⟩
                            · refine ⟨fun h => absurd (by rw [h1]; decide) h, fun ⟨b, hb, hv⟩ => ?_⟩
                              have hbw : b = w := kt_vic_one hcb (by omega) hmw hml_ (show 0 ≤ r_9.toInt ∧ r_9.toInt < ml.toInt * mw.toInt by omega) (by omega) (by omega) hv hj (by rw [← hw_96]; exact (kt_nIof (x := b1 j) (by have h11 := hq113.2; rw [hjn, nI_clamp (by omega)] at h11; omega)).trans (by have h11 := hq113.2; rw [hjn, nI_clamp (by omega)] at h11; rw [h11]; rfl)) (by rw [← hw_96]; omega)
                              rw [hbw] at hv; exact absurd hv h2) else (by
                            rw [pk_un hjk]
                            exact (hy j hj).trans ⟨fun ⟨b, hb, hv⟩ => ⟨b, by omega, hv⟩, fun ⟨b, hb, hv⟩ => ⟨b, Nat.lt_of_le_of_ne (by omega) (fun e => hjk (by rw [e] at hv; have h9 := hv.2.1; rw [← hw_96, ho113] at h9; have h10 := kt_nIinj (by omega) (by omega) h9; rw [hq150]; exact h10.symm)), hv⟩⟩)) H _ hP hD hS ls (lv_sub hl [0, 2, 3, 4, 5, 6] rfl)
        · have d_104 := c_104
          simp only [kt_lt, kt_le, kt_eq, kt_c0, kt_c1, kt_c2, kt_c3, kt_c4, kt_c8, kt_c9, kt_cm1, kt_c81, kt_c40, kt_c7, kt_c5, kt_c6, kt_c512, kt_c10, kt_c10000] at d_104
          refine lv_aload_n hx hb dX11_make_107 rfl (lv_at hl 3 rfl) ?_
          refine va_get (D := D) (ci := 11) (C := RX11) (T := TX11) (N := 29) hx hb hts iw_X11_make_X11 hown hK hP 0 rfl rfl 14 (by decide) (hts (.fieldLink RX11 33 "KingTableModel" "on" "[I") (kt_wp_X11_make__X11_make_r1 kt_wm1)) (fun _ h9 => h9) rfl dX11_make_108 ?_
          refine lv_iload hx hb dX11_make_111 (lv_at hl 0 rfl) ?_
          have hi_10 : vp_in r_96 81 := by exact kt_in (by omega) (by omega)
          refine va_iald hx hb hK hP 2 0 rfl rfl hi_10 dX11_make_113 ?_
          refine lv_topi (fun a_113 ea_113 => ?_)
          refine lv_iconst (v := (-1)) hx hb dX11_make_114 (by decide) ?_
          refine lv_icmp_eq (tgt := 165) hx hb dX11_make_115 (by decide) (fun c_115 => ?_) (fun c_115 => ?_)
          · have d_115 := c_115
            simp only [kt_lt, kt_le, kt_eq, kt_c0, kt_c1, kt_c2, kt_c3, kt_c4, kt_c8, kt_c9, kt_cm1, kt_c81, kt_c40, kt_c7, kt_c5, kt_c6, kt_c512, kt_c10, kt_c10000] at d_115
            
            refine lv_iinc (v := nI (w + 1)) (lv' := [(5, .int (nI (w + 1))), (6, .int r_96), (4, .int r_9), (0, .ref mx), (1, .int p1), (2, .int p2), (3, .int p3)]) hx hb dX11_make_165 hl (k := 1) rfl (nI_1 _) (by decide) rfl (fun ls hl => ?_)
            refine lv_goto (tgt := 76) hx hb dX11_make_168 (by decide) ?_
            exact ih_76 ((w + 1), y) (by show ((w + 1) ≤ 4 ∧ 4 < (w + 1) + n_76 ∧ (1 ≤ (w + 1) → kt_tks mkt (fk p1.toNatClampNeg))) ∧ ∀ j, j < P_ → (¬ y j = 0 ↔ ∃ b : Nat, b < (w + 1) ∧ kt_vic b2 fr fk mkt mhd mw.toInt ml.toInt p1.toNatClampNeg r_9.toInt b j); refine ⟨⟨by omega, by omega, fun _ => htp⟩, fun j hj => ?_⟩; first
                          | exact (hy j hj).trans ⟨fun ⟨b, hb, hv⟩ => ⟨b, by omega, hv⟩, fun ⟨b, hb, hv⟩ => ⟨b, Nat.lt_of_le_of_ne (by omega) (fun e => by rw [e] at hv; first | exact hv.1 (by rw [← hw_96]; omega) | exact kt_nIm1 (a := j) (by omega) (hv.2.1.symm.trans (by rw [← hw_96]; exact ea_113.symm.trans c_115)) | (have e0 : b2 r_96.toInt.toNat = nI j := (by rw [hw_96]; exact hv.2.1); have e1 : a_113 = nI j := ea_113.trans e0; exact hv.2.2.1 (by have h9 := congrArg Int32.toInt c_134; rw [hw_126.1, hw_131.1, hq125, e1, nI_clamp (by omega)] at h9; exact h9))), hv⟩⟩
                          | exact if hjk : j = a_150.toNatClampNeg then (by
                              have hjn : a_158 = nI j := by rw [hjk, hq158, hq150]; exact hqn
                              have hV : kt_B r_161 (kt_vic b2 fr fk mkt mhd mw.toInt ml.toInt p1.toNatClampNeg r_9.toInt w j) := by
                                have h9 := hw_161; rw [hjn, nI_clamp (by omega), hw0] at h9
                                have h10 : (b1 j).toInt = r_96.toInt := by have h11 := hq113.2; rw [hjn, nI_clamp (by omega)] at h11; omega
                                rw [h10, hw_96] at h9
                                refine h9.iff ⟨fun h => ⟨by rw [← hw_96]; omega, by rw [← hw_96, ho113, hjk, hq150]; rfl, fun h2 => c_134 ((kt_eq _ _).mpr (by rw [hw_126.1, hw_131.1, hq125, ← hq158, hjn, nI_clamp (by omega)]; exact h2)), h⟩, fun h => h.2.2.2⟩
                              rw [hjk, pk_us, ← hjk]
                              rcases hV with ⟨h1, h2⟩ | ⟨h1, h2⟩
                              · exact ⟨fun _ => ⟨w, by omega, h2⟩, fun _ => by rw [h1]; decide⟩
                              · refine ⟨fun h => absurd (by rw [h1]; decide) h, fun ⟨b, hb, hv⟩ => ?_⟩
                                have hbw : b = w := kt_vic_one hcb (by omega) hmw hml_ (show 0 ≤ r_9.toInt ∧ r_9.toInt < ml.toInt * mw.toInt by omega) (by omega) (by omega) hv hj (by rw [← hw_96]; exact (kt_nIof (x := b1 j) (by have h11 := hq113.2; rw [hjn, nI_clamp (by omega)] at h11; omega)).trans (by have h11 := hq113.2; rw [hjn, nI_clamp (by omega)] at h11; rw [h11]; rfl)) (by rw [← hw_96]; omega)
                                rw [hbw] at hv; exact absurd hv h2) else (by
                              rw [pk_un hjk]
                              exact (hy j hj).trans ⟨fun ⟨b, hb, hv⟩ => ⟨b, by omega, hv⟩, fun ⟨b, hb, hv⟩ => ⟨b, Nat.lt_of_le_of_ne (by omega) (fun e => hjk (by rw [e] at hv; have h9 := hv.2.1; rw [← hw_96, ho113] at h9; have h10 := kt_nIinj (by omega) (by omega) h9; rw [hq150]; exact h10.symm)), hv⟩⟩)) H _ hP hD hS ls (lv_sub hl [0, 2, 3, 4, 5, 6] rfl)
          · have d_115 := c_115
            simp only [kt_lt, kt_le, kt_eq, kt_c0, kt_c1, kt_c2, kt_c3, kt_c4, kt_c8, kt_c9, kt_cm1, kt_c81, kt_c40, kt_c7, kt_c5, kt_c6, kt_c512, kt_c10, kt_c10000] at d_115
            have hq113 := hcb.at (by omega) (f := r_96.toInt.toNat) (by omega) ea_113 c_115
            have hqn := kt_nIof (x := a_113) (by omega)
            have ho113 : b2 r_96.toInt.toNat = nI a_113.toInt.toNat := by rw [← hqn]; exact ea_113.symm
            refine lv_aload_n hx hb dX11_make_118 rfl (lv_at hl 3 rfl) ?_
            refine lv_aload_n hx hb dX11_make_119 rfl (lv_at hl 3 rfl) ?_
            refine va_get (D := D) (ci := 11) (C := RX11) (T := TX11) (N := 29) hx hb hts iw_X11_make_X11 hown hK hP 0 rfl rfl 14 (by decide) (hts (.fieldLink RX11 33 "KingTableModel" "on" "[I") (kt_wp_X11_make__X11_make_r1 kt_wm1)) (fun _ h9 => h9) rfl dX11_make_120 ?_
            refine lv_iload hx hb dX11_make_123 (lv_at hl 0 rfl) ?_
            have hi_11 : vp_in r_96 81 := by exact kt_in (by omega) (by omega)
            refine va_iald hx hb hK hP 2 0 rfl rfl hi_11 dX11_make_125 ?_
            refine lv_topi (fun a_125 ea_125 => ?_)
            have hq125 : a_125 = a_113 := by rw [ea_125, ea_113]
            have hr125 := congrArg Int32.toInt hq125
            refine kt_pi (wc := [(mx, .inr (11, [.int ml, .int mw, .ref ms, .int mgl, .int mhd, .int mre, .int mag, .int mkt, .int mho, .int mpc, .int msd, .int mki, .ref mk, .ref ma, .ref mo, .ref mg, .ref mm, .ref mt, .int mdn, .int mun, .ref mn, .int 0, .ref me, .ref mq, .int msv, .ref mwo, .ref md, .ref mf, .ref mr])), (mk, .inl (cI, 40, .inl fk))]) [0, 4] hP hD hS hA rfl (by decide) (fun hPc hDc => va_runV (As := [.int a_125]) (rest := []) ⟨hx, hb, hml, hown, hts⟩ (c_X11_sideOfE l D cI cZ cB H.size mx ms mk ma mo mg mm mt mn me mq mwo md mf mr ml mw mgl mhd mre mag mkt mho mpc msd mki mdn mun 0 msv fk a_125 (by first | assumption | omega | rfl | decide)) (cwV 1 hts gX11_make_X11_sideOf rfl rfl rfl (by decide +kernel) ⟨Nat.le_of_ble_eq_true rfl, Nat.le_of_ble_eq_true rfl⟩) (kt_preV hN hK hPc hDc 0 (ci := 11) (q := (RX11, TX11, 29)) rfl rfl) rfl rfl hl.1 rfl (lv_room (Nat.le_of_ble_eq_true rfl)) dX11_make_126 ⟨Nat.le_of_ble_eq_true rfl, Nat.le_of_ble_eq_true rfl⟩) (fun r_126 _ H locs hw_126 hP hS => ?_)
            refine lv_aload_n hx hb dX11_make_129 rfl (lv_at hl 3 rfl) ?_
            refine lv_iload_n hx hb dX11_make_130 rfl (lv_at hl 4 rfl) ?_
            refine kt_pi (wc := [(mx, .inr (11, [.int ml, .int mw, .ref ms, .int mgl, .int mhd, .int mre, .int mag, .int mkt, .int mho, .int mpc, .int msd, .int mki, .ref mk, .ref ma, .ref mo, .ref mg, .ref mm, .ref mt, .int mdn, .int mun, .ref mn, .int 0, .ref me, .ref mq, .int msv, .ref mwo, .ref md, .ref mf, .ref mr])), (mk, .inl (cI, 40, .inl fk))]) [0, 4] hP hD hS hA rfl (by decide) (fun hPc hDc => va_runV (As := [.int p1]) (rest := [.int r_126]) ⟨hx, hb, hml, hown, hts⟩ (c_X11_sideOfE l D cI cZ cB H.size mx ms mk ma mo mg mm mt mn me mq mwo md mf mr ml mw mgl mhd mre mag mkt mho mpc msd mki mdn mun 0 msv fk p1 (by first | assumption | omega | rfl | decide)) (cwV 1 hts gX11_make_X11_sideOf rfl rfl rfl (by decide +kernel) ⟨Nat.le_of_ble_eq_true rfl, Nat.le_of_ble_eq_true rfl⟩) (kt_preV hN hK hPc hDc 0 (ci := 11) (q := (RX11, TX11, 29)) rfl rfl) rfl rfl hl.1 rfl (lv_room (Nat.le_of_ble_eq_true rfl)) dX11_make_131 ⟨Nat.le_of_ble_eq_true rfl, Nat.le_of_ble_eq_true rfl⟩) (fun r_131 _ H locs hw_131 hP hS => ?_)
            refine lv_icmp_ne (tgt := 140) hx hb dX11_make_134 (by decide) (fun c_134 => ?_) (fun c_134 => ?_)
            · have d_134 := c_134
              simp only [kt_lt, kt_le, kt_eq, kt_c0, kt_c1, kt_c2, kt_c3, kt_c4, kt_c8, kt_c9, kt_cm1, kt_c81, kt_c40, kt_c7, kt_c5, kt_c6, kt_c512, kt_c10, kt_c10000] at d_134
              refine lv_aload_n hx hb dX11_make_140 rfl (lv_at hl 3 rfl) ?_
              refine va_get (D := D) (ci := 11) (C := RX11) (T := TX11) (N := 29) hx hb hts iw_X11_make_X11 hown hK hP 0 rfl rfl 20 (by decide) (hts (.fieldLink RX11 47 "KingTableModel" "taken" "[Z") (kt_wp_X11_make__X11_make_r1 kt_wm3)) (fun _ h9 => h9) rfl dX11_make_141 ?_
              refine lv_aload_n hx hb dX11_make_144 rfl (lv_at hl 3 rfl) ?_
              refine va_get (D := D) (ci := 11) (C := RX11) (T := TX11) (N := 29) hx hb hts iw_X11_make_X11 hown hK hP 0 rfl rfl 14 (by decide) (hts (.fieldLink RX11 33 "KingTableModel" "on" "[I") (kt_wp_X11_make__X11_make_r1 kt_wm1)) (fun _ h9 => h9) rfl dX11_make_145 ?_
              refine lv_iload hx hb dX11_make_148 (lv_at hl 0 rfl) ?_
              have hi_12 : vp_in r_96 81 := by exact kt_in (by omega) (by omega)
              refine va_iald hx hb hK hP 2 0 rfl rfl hi_12 dX11_make_150 ?_
              refine lv_topi (fun a_150 ea_150 => ?_)
              have hq150 : a_150 = a_113 := by rw [ea_150, ea_113]
              have hr150 := congrArg Int32.toInt hq150
              refine lv_aload_n hx hb dX11_make_151 rfl (lv_at hl 3 rfl) ?_
              refine lv_aload_n hx hb dX11_make_152 rfl (lv_at hl 3 rfl) ?_
              refine va_get (D := D) (ci := 11) (C := RX11) (T := TX11) (N := 29) hx hb hts iw_X11_make_X11 hown hK hP 0 rfl rfl 14 (by decide) (hts (.fieldLink RX11 33 "KingTableModel" "on" "[I") (kt_wp_X11_make__X11_make_r1 kt_wm1)) (fun _ h9 => h9) rfl dX11_make_153 ?_
              refine lv_iload hx hb dX11_make_156 (lv_at hl 0 rfl) ?_
              have hi_13 : vp_in r_96 81 := by exact kt_in (by omega) (by omega)
              refine va_iald hx hb hK hP 2 0 rfl rfl hi_13 dX11_make_158 ?_
              refine lv_topi (fun a_158 ea_158 => ?_)
              have hq158 : a_158 = a_113 := by rw [ea_158, ea_113]
              have hr158 := congrArg Int32.toInt hq158
              rw [← hq158] at hq113
              refine lv_iload hx hb dX11_make_159 (lv_at hl 1 rfl) ?_
              refine kt_pi (wc := [(mx, .inr (11, [.int ml, .int mw, .ref ms, .int mgl, .int mhd, .int mre, .int mag, .int mkt, .int mho, .int mpc, .int msd, .int mki, .ref mk, .ref ma, .ref mo, .ref mg, .ref mm, .ref mt, .int mdn, .int mun, .ref mn, .int 0, .ref me, .ref mq, .int msv, .ref mwo, .ref md, .ref mf, .ref mr])), (ma, .inl (cI, 40, .inl b1)), (mo, .inl (cI, 81, .inl b2)), (mg, .inl (cI, 81, .inl fr)), (mk, .inl (cI, 40, .inl fk))]) [0, 1, 2, 3, 4] hP hD hS hA rfl (by decide) (fun hPc hDc => va_runV (As := [.int a_158, .int (nI w)]) (rest := [.int a_150, .ref mn]) ⟨hx, hb, hml, hown, hts⟩ (c_X11_isTakenE l D cI cZ cB H.size mx ms mk ma mo mg mm mt mn me mq mwo md mf mr ml mw mgl mhd mre mag mkt mho mpc msd mki mdn mun 0 msv P_ b1 b2 fr fk a_158 (nI w) hml_ hmw hpc hfb (hcb.r (by omega)) (by omega) (by rw [hq113.2]; omega)) (cwV 2 hts gX11_make_X11_isTaken rfl rfl rfl (by decide +kernel) ⟨Nat.le_of_ble_eq_true rfl, Nat.le_of_ble_eq_true rfl⟩) (kt_preV hN hK hPc hDc 0 (ci := 11) (q := (RX11, TX11, 29)) rfl rfl) rfl rfl hl.1 rfl (lv_room (Nat.le_of_ble_eq_true rfl)) dX11_make_161 ⟨Nat.le_of_ble_eq_true rfl, Nat.le_of_ble_eq_true rfl⟩) (fun r_161 _ H locs hw_161 hP hS => ?_)
              have hi_14 : vp_in a_150 40 := by exact kt_in (by omega) (by omega)
              refine va_zast hx hb hK hP hD hS 5 1 rfl rfl hi_14 dX11_make_164 (fun H locs hP hD hS => ?_)
              have hP : va_P D vwCl [(mx, .inr (11, [.int ml, .int mw, .ref ms, .int mgl, .int mhd, .int mre, .int mag, .int mkt, .int mho, .int mpc, .int msd, .int mki, .ref mk, .ref ma, .ref mo, .ref mg, .ref mm, .ref mt, .int mdn, .int mun, .ref mn, .int 0, .ref me, .ref mq, .int msv, .ref mwo, .ref md, .ref mf, .ref mr])), (ma, .inl (cI, 40, .inl b1)), (mo, .inl (cI, 81, .inl b2)), (mg, .inl (cI, 81, .inl fr)), (mk, .inl (cI, 40, .inl fk)), (mn, .inl (cZ, 40, .inl (upd y a_150.toNatClampNeg (vp_nar .boolean r_161))))] H := hP
              have hD : va_D A [(mx, .inr (11, [.int ml, .int mw, .ref ms, .int mgl, .int mhd, .int mre, .int mag, .int mkt, .int mho, .int mpc, .int msd, .int mki, .ref mk, .ref ma, .ref mo, .ref mg, .ref mm, .ref mt, .int mdn, .int mun, .ref mn, .int 0, .ref me, .ref mq, .int msv, .ref mwo, .ref md, .ref mf, .ref mr])), (ma, .inl (cI, 40, .inl b1)), (mo, .inl (cI, 81, .inl b2)), (mg, .inl (cI, 81, .inl fr)), (mk, .inl (cI, 40, .inl fk)), (mn, .inl (cZ, 40, .inl (upd y a_150.toNatClampNeg (vp_nar .boolean r_161))))] := hD
              
              refine lv_iinc (v := nI (w + 1)) (lv' := [(5, .int (nI (w + 1))), (6, .int r_96), (4, .int r_9), (0, .ref mx), (1, .int p1), (2, .int p2), (3, .int p3)]) hx hb dX11_make_165 hl (k := 1) rfl (nI_1 _) (by decide) rfl (fun ls hl => ?_)
              refine lv_goto (tgt := 76) hx hb dX11_make_168 (by decide) ?_
              exact ih_76 ((w + 1), (upd y a_150.toNatClampNeg (vp_nar .boolean r_161))) (by show ((w + 1) ≤ 4 ∧ 4 < (w + 1) + n_76 ∧ (1 ≤ (w + 1) → kt_tks mkt (fk p1.toNatClampNeg))) ∧ ∀ j, j < P_ → (¬ (upd y a_150.toNatClampNeg (vp_nar .boolean r_161)) j = 0 ↔ ∃ b : Nat, b < (w + 1) ∧ kt_vic b2 fr fk mkt mhd mw.toInt ml.toInt p1.toNatClampNeg r_9.toInt b j); refine ⟨⟨by omega, by omega, fun _ => htp⟩, fun j hj => ?_⟩; first
                            | exact (hy j hj).trans ⟨fun ⟨b, hb, hv⟩ => ⟨b, by omega, hv⟩, fun ⟨b, hb, hv⟩ => ⟨b, Nat.lt_of_le_of_ne (by omega) (fun e => by rw [e] at hv; first | exact hv.1 (by rw [← hw_96]; omega) | exact kt_nIm1 (a := j) (by omega) (hv.2.1.symm.trans (by rw [← hw_96]; exact ea_113.symm.trans c_115)) | (have e0 : b2 r_96.toInt.toNat = nI j := (by rw [hw_96]; exact hv.2.1); have e1 : a_113 = nI j := ea_113.trans e0; exact hv.2.2.1 (by have h9 := congrArg Int32.toInt c_134; rw [hw_126.1, hw_131.1, hq125, e1, nI_clamp (by omega)] at h9; exact h9))), hv⟩⟩
                            | exact if hjk : j = a_150.toNatClampNeg then (by
                                have hjn : a_158 = nI j := by rw [hjk, hq158, hq150]; exact hqn
                                have hV : kt_B r_161 (kt_vic b2 fr fk mkt mhd mw.toInt ml.toInt p1.toNatClampNeg r_9.toInt w j) := by
                                  have h9 := hw_161; rw [hjn, nI_clamp (by omega), hw0] at h9
                                  have h10 : (b1 j).toInt = r_96.toInt := by have h11 := hq113.2; rw [hjn, nI_clamp (by omega)] at h11; omega
                                  rw [h10, hw_96] at h9
                                  refine h9.iff ⟨fun h => ⟨by rw [← hw_96]; omega, by rw [← hw_96, ho113, hjk, hq150]; rfl, fun h2 => c_134 ((kt_eq _ _).mpr (by rw [hw_126.1, hw_131.1, hq125, ← hq158, hjn, nI_clamp (by omega)]; exact h2)), h⟩, fun h => h.2.2.2⟩
                                rw [hjk, pk_us, ← hjk]
                                rcases hV with ⟨h1, h2⟩ | ⟨h1, h2⟩
                                · exact ⟨fun _ => ⟨w, by omega, h2⟩, fun _ => by rw [h1]; decide⟩
                                · refine ⟨fun h => absurd (by rw [h1]; decide) h, fun ⟨b, hb, hv⟩ => ?_⟩
                                  have hbw : b = w := kt_vic_one hcb (by omega) hmw hml_ (show 0 ≤ r_9.toInt ∧ r_9.toInt < ml.toInt * mw.toInt by omega) (by omega) (by omega) hv hj (by rw [← hw_96]; exact (kt_nIof (x := b1 j) (by have h11 := hq113.2; rw [hjn, nI_clamp (by omega)] at h11; omega)).trans (by have h11 := hq113.2; rw [hjn, nI_clamp (by omega)] at h11; rw [h11]; rfl)) (by rw [← hw_96]; omega)
                                  rw [hbw] at hv; exact absurd hv h2) else (by
                                rw [pk_un hjk]
                                exact (hy j hj).trans ⟨fun ⟨b, hb, hv⟩ => ⟨b, by omega, hv⟩, fun ⟨b, hb, hv⟩ => ⟨b, Nat.lt_of_le_of_ne (by omega) (fun e => hjk (by rw [e] at hv; have h9 := hv.2.1; rw [← hw_96, ho113] at h9; have h10 := kt_nIinj (by omega) (by omega) h9; rw [hq150]; exact h10.symm)), hv⟩⟩)) H _ hP hD hS ls (lv_sub hl [0, 2, 3, 4, 5, 6] rfl)
            · have d_134 := c_134
              simp only [kt_lt, kt_le, kt_eq, kt_c0, kt_c1, kt_c2, kt_c3, kt_c4, kt_c8, kt_c9, kt_cm1, kt_c81, kt_c40, kt_c7, kt_c5, kt_c6, kt_c512, kt_c10, kt_c10000] at d_134
              refine lv_goto (tgt := 165) hx hb dX11_make_137 (by decide) ?_
              
              refine lv_iinc (v := nI (w + 1)) (lv' := [(5, .int (nI (w + 1))), (6, .int r_96), (4, .int r_9), (0, .ref mx), (1, .int p1), (2, .int p2), (3, .int p3)]) hx hb dX11_make_165 hl (k := 1) rfl (nI_1 _) (by decide) rfl (fun ls hl => ?_)
              refine lv_goto (tgt := 76) hx hb dX11_make_168 (by decide) ?_
              exact ih_76 ((w + 1), y) (by show ((w + 1) ≤ 4 ∧ 4 < (w + 1) + n_76 ∧ (1 ≤ (w + 1) → kt_tks mkt (fk p1.toNatClampNeg))) ∧ ∀ j, j < P_ → (¬ y j = 0 ↔ ∃ b : Nat, b < (w + 1) ∧ kt_vic b2 fr fk mkt mhd mw.toInt ml.toInt p1.toNatClampNeg r_9.toInt b j); refine ⟨⟨by omega, by omega, fun _ => htp⟩, fun j hj => ?_⟩; first
                            | exact (hy j hj).trans ⟨fun ⟨b, hb, hv⟩ => ⟨b, by omega, hv⟩, fun ⟨b, hb, hv⟩ => ⟨b, Nat.lt_of_le_of_ne (by omega) (fun e => by rw [e] at hv; first | exact hv.1 (by rw [← hw_96]; omega) | exact kt_nIm1 (a := j) (by omega) (hv.2.1.symm.trans (by rw [← hw_96]; exact ea_113.symm.trans c_115)) | (have e0 : b2 r_96.toInt.toNat = nI j := (by rw [hw_96]; exact hv.2.1); have e1 : a_113 = nI j := ea_113.trans e0; exact hv.2.2.1 (by have h9 := congrArg Int32.toInt c_134; rw [hw_126.1, hw_131.1, hq125, e1, nI_clamp (by omega)] at h9; exact h9))), hv⟩⟩
                            | exact if hjk : j = a_150.toNatClampNeg then (by
                                have hjn : a_158 = nI j := by rw [hjk, hq158, hq150]; exact hqn
                                have hV : kt_B r_161 (kt_vic b2 fr fk mkt mhd mw.toInt ml.toInt p1.toNatClampNeg r_9.toInt w j) := by
                                  have h9 := hw_161; rw [hjn, nI_clamp (by omega), hw0] at h9
                                  have h10 : (b1 j).toInt = r_96.toInt := by have h11 := hq113.2; rw [hjn, nI_clamp (by omega)] at h11; omega
                                  rw [h10, hw_96] at h9
                                  refine h9.iff ⟨fun h => ⟨by rw [← hw_96]; omega, by rw [← hw_96, ho113, hjk, hq150]; rfl, fun h2 => c_134 ((kt_eq _ _).mpr (by rw [hw_126.1, hw_131.1, hq125, ← hq158, hjn, nI_clamp (by omega)]; exact h2)), h⟩, fun h => h.2.2.2⟩
                                rw [hjk, pk_us, ← hjk]
                                rcases hV with ⟨h1, h2⟩ | ⟨h1, h2⟩
                                · exact ⟨fun _ => ⟨w, by omega, h2⟩, fun _ => by rw [h1]; decide⟩
                                · refine ⟨fun h => absurd (by rw [h1]; decide) h, fun ⟨b, hb, hv⟩ => ?_⟩
                                  have hbw : b = w := kt_vic_one hcb (by omega) hmw hml_ (show 0 ≤ r_9.toInt ∧ r_9.toInt < ml.toInt * mw.toInt by omega) (by omega) (by omega) hv hj (by rw [← hw_96]; exact (kt_nIof (x := b1 j) (by have h11 := hq113.2; rw [hjn, nI_clamp (by omega)] at h11; omega)).trans (by have h11 := hq113.2; rw [hjn, nI_clamp (by omega)] at h11; rw [h11]; rfl)) (by rw [← hw_96]; omega)
                                  rw [hbw] at hv; exact absurd hv h2) else (by
                                rw [pk_un hjk]
                                exact (hy j hj).trans ⟨fun ⟨b, hb, hv⟩ => ⟨b, by omega, hv⟩, fun ⟨b, hb, hv⟩ => ⟨b, Nat.lt_of_le_of_ne (by omega) (fun e => hjk (by rw [e] at hv; have h9 := hv.2.1; rw [← hw_96, ho113] at h9; have h10 := kt_nIinj (by omega) (by omega) h9; rw [hq150]; exact h10.symm)), hv⟩⟩)) H _ hP hD hS ls (lv_sub hl [0, 2, 3, 4, 5, 6] rfl)
  · have d_51 := c_51
    simp only [kt_lt, kt_le, kt_eq, kt_c0, kt_c1, kt_c2, kt_c3, kt_c4, kt_c8, kt_c9, kt_cm1, kt_c81, kt_c40, kt_c7, kt_c5, kt_c6, kt_c512, kt_c10, kt_c10000] at d_51
    refine lv_aload_n hx hb dX11_make_54 rfl (lv_at hl 2 rfl) ?_
    refine va_get (D := D) (ci := 11) (C := RX11) (T := TX11) (N := 29) hx hb hts iw_X11_make_X11 hown hK hP 0 rfl rfl 20 (by decide) (hts (.fieldLink RX11 47 "KingTableModel" "taken" "[Z") (kt_wp_X11_make__X11_make_r1 kt_wm3)) (fun _ h9 => h9) rfl dX11_make_55 ?_
    refine lv_iload hx hb dX11_make_58 (lv_at hl 0 rfl) ?_
    refine lv_iconst (v := 0) hx hb dX11_make_60 (by decide) ?_
    have hi_15 : vp_in (nI k) 40 := by exact kt_in (by omega) (by omega)
    refine va_zast hx hb hK hP hD hS 5 1 rfl rfl hi_15 dX11_make_61 (fun H locs hP hD hS => ?_)
    have hP : va_P D vwCl [(mx, .inr (11, [.int ml, .int mw, .ref ms, .int mgl, .int mhd, .int mre, .int mag, .int mkt, .int mho, .int mpc, .int msd, .int mki, .ref mk, .ref ma, .ref mo, .ref mg, .ref mm, .ref mt, .int mdn, .int mun, .ref mn, .int mtk, .ref me, .ref mq, .int msv, .ref mwo, .ref md, .ref mf, .ref mr])), (ma, .inl (cI, 40, .inl b1)), (mo, .inl (cI, 81, .inl b2)), (mg, .inl (cI, 81, .inl fr)), (mk, .inl (cI, 40, .inl fk)), (mn, .inl (cZ, 40, .inl (upd z (nI k).toNatClampNeg (vp_nar .boolean 0))))] H := hP
    have hD : va_D A [(mx, .inr (11, [.int ml, .int mw, .ref ms, .int mgl, .int mhd, .int mre, .int mag, .int mkt, .int mho, .int mpc, .int msd, .int mki, .ref mk, .ref ma, .ref mo, .ref mg, .ref mm, .ref mt, .int mdn, .int mun, .ref mn, .int mtk, .ref me, .ref mq, .int msv, .ref mwo, .ref md, .ref mf, .ref mr])), (ma, .inl (cI, 40, .inl b1)), (mo, .inl (cI, 81, .inl b2)), (mg, .inl (cI, 81, .inl fr)), (mk, .inl (cI, 40, .inl fk)), (mn, .inl (cZ, 40, .inl (upd z (nI k).toNatClampNeg (vp_nar .boolean 0))))] := hD
    refine lv_iinc (v := nI (k + 1)) (lv' := [(5, .int (nI (k + 1))), (4, .int r_9), (0, .ref mx), (1, .int p1), (2, .int p2), (3, .int p3)]) hx hb dX11_make_62 hl (k := 0) rfl (nI_1 _) (by decide) rfl (fun ls hl => ?_)
    refine lv_goto (tgt := 45) hx hb dX11_make_65 (by decide) ?_
    exact ih_45 ((k + 1), (upd z (nI k).toNatClampNeg (vp_nar .boolean 0))) (by show ((k + 1) ≤ 40 ∧ 40 < (k + 1) + n_45) ∧ ∀ j, j < (k + 1) → (upd z (nI k).toNatClampNeg (vp_nar .boolean 0)) j = 0; refine ⟨by omega, fun j hj => ?_⟩; rw [nI_clamp (by omega)]; exact if hjk : j = k then (by rw [hjk, pk_us]; rfl) else (by rw [pk_un hjk]; exact hz j (by omega))) H _ hP hD hS ls (lv_sub hl [0, 1, 2, 3, 4, 5] rfl)
