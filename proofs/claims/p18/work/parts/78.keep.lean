set_option maxHeartbeats 4000000 in
set_option maxRecDepth 100000 in
theorem c_X11_bestX (l : Launch) (D : va_G) (cI cZ cB : ClassId) (sz : Nat) (mx : Nat) (ms : Nat) (mk : Nat) (ma : Nat) (mo : Nat) (mg : Nat) (mm : Nat) (mt : Nat) (mn : Nat) (me : Nat) (mq : Nat) (mwo : Nat) (md : Nat) (mf : Nat) (mr : Nat) (ml : Int32) (mw : Int32) (mgl : Int32) (mhd : Int32) (mre : Int32) (mag : Int32) (mkt : Int32) (mho : Int32) (mpc : Int32) (msd : Int32) (mki : Int32) (mdn : Int32) (mun : Int32) (mtk : Int32) (msv : Int32) (P_ : Nat) (fa : Nat → Int32) (fo : Nat → Int32) (fr : Nat → Int32) (fk : Nat → Int32) (ft : Nat → Int32) (gs_ : Nat → Int32) (mv : Nat → Int32) (gw : Nat → Int32) (gd : Nat → Int32) (hml_ : 2 ≤ ml.toInt ∧ ml.toInt ≤ 9) (hmw : 2 ≤ mw.toInt ∧ mw.toInt ≤ 9) (hpi : ¬ mho.toInt = 0 → kt_PI ml mw mpc msd mki mdn mun mkt mhd fr fk fa fo mv gs_ P_) (hho : 0 ≤ mho.toInt ∧ mho.toInt ≤ 4) (hsv : ¬ msv.toInt = 0 → ¬ mho.toInt = 0 ∧ 2 * kt_pw (ml.toInt * mw.toInt + 1) P_ ≤ 10000) (hbd : mdn.toInt + mun.toInt ≤ 3900) (hpd : ¬ mho.toInt = 0 → kt_PD ml mw msd mki mdn mun mkt mhd mho mtk mgl mre mag fr fk mv gs_ ft P_) : kt_Mi l yX11_best wsX11_best { frames := 5, cells := 0, slots := 0, locals := 118 } D (kt_ty cI cZ cB) [.ref mx] sz [(mx, .inr (11, [.int ml, .int mw, .ref ms, .int mgl, .int mhd, .int mre, .int mag, .int mkt, .int mho, .int mpc, .int msd, .int mki, .ref mk, .ref ma, .ref mo, .ref mg, .ref mm, .ref mt, .int mdn, .int mun, .ref mn, .int mtk, .ref me, .ref mq, .int msv, .ref mwo, .ref md, .ref mf, .ref mr])), (ma, .inl (cI, 40, .inl fa)), (mo, .inl (cI, 81, .inl fo)), (mg, .inl (cI, 81, .inl fr)), (mk, .inl (cI, 40, .inl fk)), (mn, .inl (cZ, 40, .inl ft)), (mt, .inl (cB, 172241, .inl gs_)), (mwo, .inl (cI, 10000, .inl gw)), (md, .inl (cI, 10000, .inl gd))] (fun (r : Int32) (u : Int32 × Int32 × (Nat → Int32) × (Nat → Int32) × (Nat → Int32)) => ¬ mho.toInt = 0 → kt_PI ml mw mpc u.2.1 mki mdn mun mkt mhd fr fk u.2.2.1 u.2.2.2.1 mv gs_ P_ ∧ kt_cut P_ u.2.2.1 = kt_cut P_ fa ∧ u.2.1 = msd ∧ kt_PD ml mw u.2.1 mki mdn mun mkt mhd mho u.1 mgl mre mag fr fk mv gs_ u.2.2.2.2 P_) (fun (u : Int32 × Int32 × (Nat → Int32) × (Nat → Int32) × (Nat → Int32)) => [(mx, .inr (11, [.int ml, .int mw, .ref ms, .int mgl, .int mhd, .int mre, .int mag, .int mkt, .int mho, .int mpc, .int u.2.1, .int mki, .ref mk, .ref ma, .ref mo, .ref mg, .ref mm, .ref mt, .int mdn, .int mun, .ref mn, .int u.1, .ref me, .ref mq, .int msv, .ref mwo, .ref md, .ref mf, .ref mr])), (ma, .inl (cI, 40, .inl u.2.2.1)), (mo, .inl (cI, 81, .inl u.2.2.2.1)), (mg, .inl (cI, 81, .inl fr)), (mk, .inl (cI, 40, .inl fk)), (mn, .inl (cZ, 40, .inl u.2.2.2.2)), (mt, .inl (cB, 172241, .inl gs_)), (mwo, .inl (cI, 10000, .inl gw)), (md, .inl (cI, 10000, .inl gd))]) 0 0 := by
  refine kt_Mi.of (cc := cX11_best) (maxL := 9) (ret := some .int) (by decide) rfl (Nat.le_of_ble_eq_true rfl) ?_
  intro p e s m below meth c A ls H hAt hP hD hS hl
  obtain ⟨hx, hb, hr, hml, hown, hts, hN, hK, hlk, hnm, hA⟩ := hAt
  have hl : lv_has ls 9 [(0, .ref mx)] := hl
  have hown : s.vm.findClass RX11 = some m.cls := hown
  have hsb := kt_mulb hml_ hmw
  refine lv_aload_n hx hb dX11_best_0 rfl (lv_at hl 0 rfl) ?_
  refine va_get (D := D) (ci := 11) (C := RX11) (T := TX11) (N := 29) hx hb hts iw_X11_best_X11 hown hK hP 0 rfl rfl 24 (by decide) (hts (.fieldLink RX11 76 "KingTableModel" "solved" "Z") (kt_wp_X11_best__X11_best_r1 kt_wm0)) (fun _ h9 => h9) rfl dX11_best_1 ?_
  refine lv_if_ne (tgt := 9) hx hb dX11_best_4 (by decide) (fun c_4 => ?_) (fun c_4 => ?_)
  · have d_4 := c_4
    simp only [kt_lt, kt_le, kt_eq, kt_c0, kt_c1, kt_c2, kt_c3, kt_c4, kt_c8, kt_c9, kt_cm1, kt_c81, kt_c40, kt_c7, kt_c5, kt_c6, kt_c512, kt_c10, kt_c10000] at d_4
    obtain ⟨hm0, hst_⟩ := hsv (by omega)
    have hpl := hpi hm0
    have hpl0 := hpl
    obtain ⟨⟨hpc, hki, hsd, hdn0, hun0⟩, ⟨hfa, hco, hcc⟩, hinj, hrows, hcut, hlgl⟩ := hpl
    have hpw1 := kt_pw_1 (B := (ml.toInt * mw.toInt + 1)) (by have := kt_mulb hml_ hmw; omega) P_
    have hpd0 := hpd hm0
    refine lv_aload_n hx hb dX11_best_9 rfl (lv_at hl 0 rfl) ?_
    refine kt_pi (wc := [(mx, .inr (11, [.int ml, .int mw, .ref ms, .int mgl, .int mhd, .int mre, .int mag, .int mkt, .int mho, .int mpc, .int msd, .int mki, .ref mk, .ref ma, .ref mo, .ref mg, .ref mm, .ref mt, .int mdn, .int mun, .ref mn, .int mtk, .ref me, .ref mq, .int msv, .ref mwo, .ref md, .ref mf, .ref mr])), (ma, .inl (cI, 40, .inl fa))]) [0, 1] hP hD hS hA rfl (by decide) (fun hPc hDc => va_runV (As := []) (rest := []) ⟨hx, hb, hml, hown, hts⟩ (c_X11_number l D cI cZ cB H.size mx ms mk ma mo mg mm mt mn me mq mwo md mf mr ml mw mgl mhd mre mag mkt mho mpc msd mki mdn mun mtk msv P_ fa hml_ hmw hpc hfa hst_ hsd) (cwV 0 hts gX11_best_X11_number rfl rfl rfl (by decide +kernel) ⟨Nat.le_of_ble_eq_true rfl, Nat.le_of_ble_eq_true rfl⟩) (kt_preV hN hK hPc hDc 0 (ci := 11) (q := (RX11, TX11, 29)) rfl rfl) rfl rfl hl.1 rfl (lv_room (Nat.le_of_ble_eq_true rfl)) dX11_best_10 ⟨Nat.le_of_ble_eq_true rfl, Nat.le_of_ble_eq_true rfl⟩) (fun r_10 _ H locs hw_10 hP hS => ?_)
    have hnm := hw_10
    refine lv_istore_n (lv' := [(1, .int r_10), (0, .ref mx)]) hx hb dX11_best_13 rfl hl (by decide) rfl (fun ls hl => ?_)
    refine lv_aload_n hx hb dX11_best_14 rfl (lv_at hl 1 rfl) ?_
    refine kt_pi (wc := [(mx, .inr (11, [.int ml, .int mw, .ref ms, .int mgl, .int mhd, .int mre, .int mag, .int mkt, .int mho, .int mpc, .int msd, .int mki, .ref mk, .ref ma, .ref mo, .ref mg, .ref mm, .ref mt, .int mdn, .int mun, .ref mn, .int mtk, .ref me, .ref mq, .int msv, .ref mwo, .ref md, .ref mf, .ref mr])), (ma, .inl (cI, 40, .inl fa)), (mo, .inl (cI, 81, .inl fo)), (mg, .inl (cI, 81, .inl fr)), (mk, .inl (cI, 40, .inl fk))]) [0, 1, 2, 3, 4] hP hD hS hA rfl (by decide) (fun hPc hDc => va_runV (As := []) (rest := []) ⟨hx, hb, hml, hown, hts⟩ (c_X11_endOf l D cI cZ cB H.size mx ms mk ma mo mg mm mt mn me mq mwo md mf mr ml mw mgl mhd mre mag mkt mho mpc msd mki mdn mun mtk msv P_ fa fo fr fk hml_ hmw hpc hfa (hco.r (by omega)) hki hsd) (cwV 0 hts gX11_best_X11_endOf rfl rfl rfl (by decide +kernel) ⟨Nat.le_of_ble_eq_true rfl, Nat.le_of_ble_eq_true rfl⟩) (kt_preV hN hK hPc hDc 0 (ci := 11) (q := (RX11, TX11, 29)) rfl rfl) rfl rfl hl.1 rfl (lv_room (Nat.le_of_ble_eq_true rfl)) dX11_best_15 ⟨Nat.le_of_ble_eq_true rfl, Nat.le_of_ble_eq_true rfl⟩) (fun r_15 _ H locs hw_15 hP hS => ?_)
    refine lv_iconst (v := 3) hx hb dX11_best_18 (by decide) ?_
    refine kt_join (σ := Int32) 27 9 (fun u => [(mx, .inr (11, [.int ml, .int mw, .ref ms, .int mgl, .int mhd, .int mre, .int mag, .int mkt, .int mho, .int mpc, .int msd, .int mki, .ref mk, .ref ma, .ref mo, .ref mg, .ref mm, .ref mt, .int mdn, .int mun, .ref mn, .int mtk, .ref me, .ref mq, .int msv, .ref mwo, .ref md, .ref mf, .ref mr])), (ma, .inl (cI, 40, .inl fa)), (mo, .inl (cI, 81, .inl fo)), (mg, .inl (cI, 81, .inl fr)), (mk, .inl (cI, 40, .inl fk)), (mn, .inl (cZ, 40, .inl ft)), (mt, .inl (cB, 172241, .inl gs_)), (mwo, .inl (cI, 10000, .inl gw)), (md, .inl (cI, 10000, .inl gd))]) (fun u => [(1, .int r_10), (0, .ref mx)]) (fun u => [.int u]) (fun u => True) (D := D) (A := A) (H0 := s.heap) (fun u hI H locs hP hD hS ls hl => ?_) (fun j_27 => ?_)
    · obtain ⟨en, rfl⟩ : ∃ z, z = u := ⟨_, rfl⟩
      have hP : va_P D vwCl [(mx, .inr (11, [.int ml, .int mw, .ref ms, .int mgl, .int mhd, .int mre, .int mag, .int mkt, .int mho, .int mpc, .int msd, .int mki, .ref mk, .ref ma, .ref mo, .ref mg, .ref mm, .ref mt, .int mdn, .int mun, .ref mn, .int mtk, .ref me, .ref mq, .int msv, .ref mwo, .ref md, .ref mf, .ref mr])), (ma, .inl (cI, 40, .inl fa)), (mo, .inl (cI, 81, .inl fo)), (mg, .inl (cI, 81, .inl fr)), (mk, .inl (cI, 40, .inl fk)), (mn, .inl (cZ, 40, .inl ft)), (mt, .inl (cB, 172241, .inl gs_)), (mwo, .inl (cI, 10000, .inl gw)), (md, .inl (cI, 10000, .inl gd))] H := hP
      have hD : va_D A [(mx, .inr (11, [.int ml, .int mw, .ref ms, .int mgl, .int mhd, .int mre, .int mag, .int mkt, .int mho, .int mpc, .int msd, .int mki, .ref mk, .ref ma, .ref mo, .ref mg, .ref mm, .ref mt, .int mdn, .int mun, .ref mn, .int mtk, .ref me, .ref mq, .int msv, .ref mwo, .ref md, .ref mf, .ref mr])), (ma, .inl (cI, 40, .inl fa)), (mo, .inl (cI, 81, .inl fo)), (mg, .inl (cI, 81, .inl fr)), (mk, .inl (cI, 40, .inl fk)), (mn, .inl (cZ, 40, .inl ft)), (mt, .inl (cB, 172241, .inl gs_)), (mwo, .inl (cI, 10000, .inl gw)), (md, .inl (cI, 10000, .inl gd))] := hD
      have hl : lv_has ls 9 [(1, .int r_10), (0, .ref mx)] := hl
      refine lv_istore_n (lv' := [(2, .int en), (1, .int r_10), (0, .ref mx)]) hx hb dX11_best_27 rfl hl (by decide) rfl (fun ls hl => ?_)
      refine lv_iconst (v := (-1)) hx hb dX11_best_28 (by decide) ?_
      refine lv_istore_n (lv' := [(3, .int (-1)), (2, .int en), (1, .int r_10), (0, .ref mx)]) hx hb dX11_best_29 rfl hl (by decide) rfl (fun ls hl => ?_)
      refine lv_iconst (v := 0) hx hb dX11_best_30 (by decide) ?_
      refine lv_istore (lv' := [(4, .int 0), (3, .int (-1)), (2, .int en), (1, .int r_10), (0, .ref mx)]) hx hb dX11_best_31 hl (by decide) rfl (fun ls hl => ?_)
      refine lv_iload_n hx hb dX11_best_33 rfl (lv_at hl 3 rfl) ?_
      refine lv_iconst (v := 2) hx hb dX11_best_34 (by decide) ?_
      refine lv_irem hx hb dX11_best_35 (by decide) ?_
      refine lv_topi (fun t_35 et_35 => ?_)
      have hk_35 := kt_remk et_35 (by omega) (by decide)
      rw [show (2 : Int32).toInt = 2 by decide] at hk_35
      refine lv_istore (lv' := [(5, .int t_35), (4, .int 0), (3, .int (-1)), (2, .int en), (1, .int r_10), (0, .ref mx)]) hx hb dX11_best_36 hl (by decide) rfl (fun ls hl => ?_)
      refine lv_iconst (v := 0) hx hb dX11_best_38 (by decide) ?_
      refine lv_istore (lv' := [(6, .int 0), (5, .int t_35), (4, .int 0), (3, .int (-1)), (2, .int en), (1, .int r_10), (0, .ref mx)]) hx hb dX11_best_39 hl (by decide) rfl (fun ls hl => ?_)
      refine kt_loop (σ := Int32 × Int32 × Int32 × (Nat → Int32) × (Nat → Int32) × (Nat → Int32) × Int32 × Int32) 41 9 (fun u => [(mx, .inr (11, [.int ml, .int mw, .ref ms, .int mgl, .int mhd, .int mre, .int mag, .int mkt, .int mho, .int mpc, .int u.2.2.2.2.2.2.2, .int mki, .ref mk, .ref ma, .ref mo, .ref mg, .ref mm, .ref mt, .int mdn, .int mun, .ref mn, .int u.2.2.2.2.2.2.1, .ref me, .ref mq, .int msv, .ref mwo, .ref md, .ref mf, .ref mr])), (ma, .inl (cI, 40, .inl u.2.2.2.1)), (mo, .inl (cI, 81, .inl u.2.2.2.2.1)), (mg, .inl (cI, 81, .inl fr)), (mk, .inl (cI, 40, .inl fk)), (mn, .inl (cZ, 40, .inl u.2.2.2.2.2.1)), (mt, .inl (cB, 172241, .inl gs_)), (mwo, .inl (cI, 10000, .inl gw)), (md, .inl (cI, 10000, .inl gd))]) (fun u => [(6, .int u.1), (5, .int t_35), (4, .int u.2.2.1), (3, .int u.2.1), (2, .int en), (1, .int r_10), (0, .ref mx)]) (fun n u => (0 ≤ u.1.toInt ∧ u.1.toInt ≤ 1280 ∧ 1280 < u.1.toInt + n) ∧ kt_r u.2.2.2.1 P_ (-1) (ml.toInt * mw.toInt - 1) ∧ kt_con u.2.2.2.2.1 u.2.2.2.1 P_ ∧ (0 ≤ u.2.2.2.2.2.2.2.toInt ∧ u.2.2.2.2.2.2.2.toInt ≤ 1)) (fun u h => by omega) (fun n_41 ih_41 u hI H locs hP hD hS ls hl => ?_) (1281) ((0 : Int32), (-1 : Int32), (0 : Int32), fa, fo, ft, mtk, msd) (by show (0 ≤ (0 : Int32).toInt ∧ (0 : Int32).toInt ≤ 1280 ∧ 1280 < (0 : Int32).toInt + 1281) ∧ kt_r fa P_ (-1) (ml.toInt * mw.toInt - 1) ∧ kt_con fo fa P_ ∧ (0 ≤ msd.toInt ∧ msd.toInt ≤ 1); exact ⟨by decide, hfa, hco, hsd⟩) hP hD hS (lv_sub hl [0, 1, 2, 3, 4, 5, 6] rfl)
      obtain ⟨mv_, bs, bd, a1, a2, a3, atk, asd⟩ := u
      have hP : va_P D vwCl [(mx, .inr (11, [.int ml, .int mw, .ref ms, .int mgl, .int mhd, .int mre, .int mag, .int mkt, .int mho, .int mpc, .int asd, .int mki, .ref mk, .ref ma, .ref mo, .ref mg, .ref mm, .ref mt, .int mdn, .int mun, .ref mn, .int atk, .ref me, .ref mq, .int msv, .ref mwo, .ref md, .ref mf, .ref mr])), (ma, .inl (cI, 40, .inl a1)), (mo, .inl (cI, 81, .inl a2)), (mg, .inl (cI, 81, .inl fr)), (mk, .inl (cI, 40, .inl fk)), (mn, .inl (cZ, 40, .inl a3)), (mt, .inl (cB, 172241, .inl gs_)), (mwo, .inl (cI, 10000, .inl gw)), (md, .inl (cI, 10000, .inl gd))] H := hP
      have hD : va_D A [(mx, .inr (11, [.int ml, .int mw, .ref ms, .int mgl, .int mhd, .int mre, .int mag, .int mkt, .int mho, .int mpc, .int asd, .int mki, .ref mk, .ref ma, .ref mo, .ref mg, .ref mm, .ref mt, .int mdn, .int mun, .ref mn, .int atk, .ref me, .ref mq, .int msv, .ref mwo, .ref md, .ref mf, .ref mr])), (ma, .inl (cI, 40, .inl a1)), (mo, .inl (cI, 81, .inl a2)), (mg, .inl (cI, 81, .inl fr)), (mk, .inl (cI, 40, .inl fk)), (mn, .inl (cZ, 40, .inl a3)), (mt, .inl (cB, 172241, .inl gs_)), (mwo, .inl (cI, 10000, .inl gw)), (md, .inl (cI, 10000, .inl gd))] := hD
      have hl : lv_has ls 9 [(6, .int mv_), (5, .int t_35), (4, .int bd), (3, .int bs), (2, .int en), (1, .int r_10), (0, .ref mx)] := hl
      have hI : (0 ≤ mv_.toInt ∧ mv_.toInt ≤ 1280 ∧ 1280 < mv_.toInt + (n_41 + 1)) ∧ kt_r a1 P_ (-1) (ml.toInt * mw.toInt - 1) ∧ kt_con a2 a1 P_ ∧ (0 ≤ asd.toInt ∧ asd.toInt ≤ 1) := hI
      obtain ⟨hmb, hfa, hco, hsd⟩ := hI
      refine lv_iload hx hb dX11_best_41 (lv_at hl 0 rfl) ?_
      refine lv_bipush (v := 32) hx hb dX11_best_43 (by decide) ?_
      refine lv_aload_n hx hb dX11_best_45 rfl (lv_at hl 6 rfl) ?_
      refine va_get (D := D) (ci := 11) (C := RX11) (T := TX11) (N := 29) hx hb hts iw_X11_best_X11 hown hK hP 0 rfl rfl 9 (by decide) (hts (.fieldLink RX11 103 "KingTableModel" "pieces" "I") (kt_wp_X11_best__X11_best_r1 kt_wm1)) (fun _ h9 => h9) rfl dX11_best_46 ?_
      refine lv_imul hx hb dX11_best_49 ?_
      refine lv_topi (fun t_49 et_49 => ?_)
      obtain ⟨k_49, hk_49, hm_49, hM_49⟩ := kt_mulk (C := 32) (et_49.trans (Int32.mul_comm _ _)) (by decide)
      try simp only [kt_c0, kt_c1, kt_c2, kt_c3, kt_c4, kt_c8, kt_c9, kt_cm1, kt_c81, kt_c40, kt_c7, kt_c5, kt_c6, kt_c512, kt_c10, kt_c10000] at hk_49
      refine lv_icmp_ge (tgt := 177) hx hb dX11_best_50 (by decide) (fun c_50 => ?_) (fun c_50 => ?_)
      · have d_50 := c_50
        simp only [kt_lt, kt_le, kt_eq, kt_c0, kt_c1, kt_c2, kt_c3, kt_c4, kt_c8, kt_c9, kt_cm1, kt_c81, kt_c40, kt_c7, kt_c5, kt_c6, kt_c512, kt_c10, kt_c10000] at d_50
        refine lv_aload_n hx hb dX11_best_177 rfl (lv_at hl 6 rfl) ?_
        have hrj := hpl0.inj (n := mdn.toInt.toNat) (by omega)
        have hrd := (hrows mdn.toInt.toNat (by omega)).1
        refine lv_aload_n hx hb dX11_best_178 rfl (lv_at hl 6 rfl) ?_
        refine va_get (D := D) (ci := 11) (C := RX11) (T := TX11) (N := 29) hx hb hts iw_X11_best_X11 hown hK hP 0 rfl rfl 18 (by decide) (hts (.fieldLink RX11 138 "KingTableModel" "done" "I") (kt_wp_X11_best__X11_best_r1 kt_wm4)) (fun _ h9 => h9) rfl dX11_best_179 ?_
        refine kt_bv (wc := [(mx, .inr (11, [.int ml, .int mw, .ref ms, .int mgl, .int mhd, .int mre, .int mag, .int mkt, .int mho, .int mpc, .int asd, .int mki, .ref mk, .ref ma, .ref mo, .ref mg, .ref mm, .ref mt, .int mdn, .int mun, .ref mn, .int atk, .ref me, .ref mq, .int msv, .ref mwo, .ref md, .ref mf, .ref mr])), (ma, .inl (cI, 40, .inl a1)), (mo, .inl (cI, 81, .inl a2)), (mt, .inl (cB, 172241, .inl gs_))]) (wr := [(mg, .inl (cI, 81, .inl fr)), (mk, .inl (cI, 40, .inl fk)), (mn, .inl (cZ, 40, .inl a3)), (mwo, .inl (cI, 10000, .inl gw)), (md, .inl (cI, 10000, .inl gd))]) [0, 1, 2, 6] [3, 4, 5, 7, 8] hP hD hS hA rfl rfl (by decide) (by decide) (by decide) (fun hPc hDc => va_runV (As := [.int mdn]) (rest := []) ⟨hx, hb, hml, hown, hts⟩ (c_X11_readE l D cI cZ cB H.size mx ms mk ma mo mg mm mt mn me mq mwo md mf mr ml mw mgl mhd mre mag mkt mho mpc asd mki mdn mun atk msv P_ a1 a2 gs_ mdn hml_ hmw hpc (by omega) hrd hrj) (cwV 1 hts gX11_best_X11_read rfl rfl rfl (by decide +kernel) ⟨Nat.le_of_ble_eq_true rfl, Nat.le_of_ble_eq_true rfl⟩) (kt_preV hN hK hPc hDc 0 (ci := 11) (q := (RX11, TX11, 29)) rfl rfl) rfl rfl hl.1 rfl (lv_room (Nat.le_of_ble_eq_true rfl)) dX11_best_182 ⟨Nat.le_of_ble_eq_true rfl, Nat.le_of_ble_eq_true rfl⟩) (fun u_ H locs hw_182 hP hD hS => ?_)
        obtain ⟨fa2_182, fo2_182, msd2_182⟩ := u_
        have hP : va_P D vwCl [(mx, .inr (11, [.int ml, .int mw, .ref ms, .int mgl, .int mhd, .int mre, .int mag, .int mkt, .int mho, .int mpc, .int msd2_182, .int mki, .ref mk, .ref ma, .ref mo, .ref mg, .ref mm, .ref mt, .int mdn, .int mun, .ref mn, .int atk, .ref me, .ref mq, .int msv, .ref mwo, .ref md, .ref mf, .ref mr])), (ma, .inl (cI, 40, .inl fa2_182)), (mo, .inl (cI, 81, .inl fo2_182)), (mg, .inl (cI, 81, .inl fr)), (mk, .inl (cI, 40, .inl fk)), (mn, .inl (cZ, 40, .inl a3)), (mt, .inl (cB, 172241, .inl gs_)), (mwo, .inl (cI, 10000, .inl gw)), (md, .inl (cI, 10000, .inl gd))] H := hP.sub [5, 6, 7, 0, 1, 2, 8, 3, 4] rfl
        have hD : va_D A [(mx, .inr (11, [.int ml, .int mw, .ref ms, .int mgl, .int mhd, .int mre, .int mag, .int mkt, .int mho, .int mpc, .int msd2_182, .int mki, .ref mk, .ref ma, .ref mo, .ref mg, .ref mm, .ref mt, .int mdn, .int mun, .ref mn, .int atk, .ref me, .ref mq, .int msv, .ref mwo, .ref md, .ref mf, .ref mr])), (ma, .inl (cI, 40, .inl fa2_182)), (mo, .inl (cI, 81, .inl fo2_182)), (mg, .inl (cI, 81, .inl fr)), (mk, .inl (cI, 40, .inl fk)), (mn, .inl (cZ, 40, .inl a3)), (mt, .inl (cB, 172241, .inl gs_)), (mwo, .inl (cI, 10000, .inl gw)), (md, .inl (cI, 10000, .inl gd))] := hD.sub [5, 6, 7, 0, 1, 2, 8, 3, 4] (by decide) rfl
        try dsimp only at hw_182
        obtain ⟨hfc3, hsd3, hrd3, hrs3⟩ := hw_182
        have hct3 : kt_cut P_ fa2_182 = kt_cut P_ fa := by
          rw [hcut, ← (hrows mdn.toInt.toNat (by omega)).2]
          exact kt_cut_eq (fun j hj => hrd3 j hj)
        have hpi3 := hpl0.rows (by omega) (fun _ _ => rfl) hsd3 hfc3 hct3
        refine lv_aload_n hx hb dX11_best_185 rfl (lv_at hl 6 rfl) ?_
        refine kt_bv (wc := [(mx, .inr (11, [.int ml, .int mw, .ref ms, .int mgl, .int mhd, .int mre, .int mag, .int mkt, .int mho, .int mpc, .int msd2_182, .int mki, .ref mk, .ref ma, .ref mo, .ref mg, .ref mm, .ref mt, .int mdn, .int mun, .ref mn, .int atk, .ref me, .ref mq, .int msv, .ref mwo, .ref md, .ref mf, .ref mr])), (mt, .inl (cB, 172241, .inl gs_)), (mn, .inl (cZ, 40, .inl a3))]) (wr := [(ma, .inl (cI, 40, .inl fa2_182)), (mo, .inl (cI, 81, .inl fo2_182)), (mg, .inl (cI, 81, .inl fr)), (mk, .inl (cI, 40, .inl fk)), (mwo, .inl (cI, 10000, .inl gw)), (md, .inl (cI, 10000, .inl gd))]) [0, 6, 5] [1, 2, 3, 4, 7, 8] hP hD hS hA rfl rfl (by decide) (by decide) (by decide) (fun hPc hDc => va_runV (As := []) (rest := []) ⟨hx, hb, hml, hown, hts⟩ (c_X11_lookAgainX l D cI cZ cB H.size mx ms mk ma mo mg mm mt mn me mq mwo md mf mr ml mw mgl mhd mre mag mkt mho mpc msd2_182 mki mdn mun atk msv P_ gs_ a3 hpc (by omega)) (cwV 0 hts gX11_best_X11_lookAgain rfl rfl rfl (by decide +kernel) ⟨Nat.le_of_ble_eq_true rfl, Nat.le_of_ble_eq_true rfl⟩) (kt_preV hN hK hPc hDc 0 (ci := 11) (q := (RX11, TX11, 29)) rfl rfl) rfl rfl hl.1 rfl (lv_room (Nat.le_of_ble_eq_true rfl)) dX11_best_186 ⟨Nat.le_of_ble_eq_true rfl, Nat.le_of_ble_eq_true rfl⟩) (fun u_ H locs hw_186 hP hD hS => ?_)
        obtain ⟨mtk2_186, ft2_186⟩ := u_
        have hP : va_P D vwCl [(mx, .inr (11, [.int ml, .int mw, .ref ms, .int mgl, .int mhd, .int mre, .int mag, .int mkt, .int mho, .int mpc, .int msd2_182, .int mki, .ref mk, .ref ma, .ref mo, .ref mg, .ref mm, .ref mt, .int mdn, .int mun, .ref mn, .int mtk2_186, .ref me, .ref mq, .int msv, .ref mwo, .ref md, .ref mf, .ref mr])), (ma, .inl (cI, 40, .inl fa2_182)), (mo, .inl (cI, 81, .inl fo2_182)), (mg, .inl (cI, 81, .inl fr)), (mk, .inl (cI, 40, .inl fk)), (mn, .inl (cZ, 40, .inl ft2_186)), (mt, .inl (cB, 172241, .inl gs_)), (mwo, .inl (cI, 10000, .inl gw)), (md, .inl (cI, 10000, .inl gd))] H := hP.sub [6, 0, 1, 2, 3, 8, 7, 4, 5] rfl
        have hD : va_D A [(mx, .inr (11, [.int ml, .int mw, .ref ms, .int mgl, .int mhd, .int mre, .int mag, .int mkt, .int mho, .int mpc, .int msd2_182, .int mki, .ref mk, .ref ma, .ref mo, .ref mg, .ref mm, .ref mt, .int mdn, .int mun, .ref mn, .int mtk2_186, .ref me, .ref mq, .int msv, .ref mwo, .ref md, .ref mf, .ref mr])), (ma, .inl (cI, 40, .inl fa2_182)), (mo, .inl (cI, 81, .inl fo2_182)), (mg, .inl (cI, 81, .inl fr)), (mk, .inl (cI, 40, .inl fk)), (mn, .inl (cZ, 40, .inl ft2_186)), (mt, .inl (cB, 172241, .inl gs_)), (mwo, .inl (cI, 10000, .inl gw)), (md, .inl (cI, 10000, .inl gd))] := hD.sub [6, 0, 1, 2, 3, 8, 7, 4, 5] (by decide) rfl
        try dsimp only at hw_186
        obtain ⟨hl0, hl1, hl2⟩ := hw_186
        have hpd3 := hpd0.rows hpc.2 hdn0 (fun _ _ => rfl) (fun n hn => (hrows n hn).2) hrs3 hl0 hl1 hl2
        have hms3 : msd2_182 = msd := (kt_eq _ _).mpr (hpd3.2.1.1.trans hpd0.2.1.1.symm)
        refine lv_iload_n hx hb dX11_best_189 rfl (lv_at hl 3 rfl) ?_
        exact kt_ri (mtk2_186, msd2_182, fa2_182, fo2_182, ft2_186) hx hb hr hlk hS dX11_best_190 hP hD (by show ¬ mho.toInt = 0 → kt_PI ml mw mpc msd2_182 mki mdn mun mkt mhd fr fk fa2_182 fo2_182 mv gs_ P_ ∧ kt_cut P_ fa2_182 = kt_cut P_ fa ∧ msd2_182 = msd ∧ kt_PD ml mw msd2_182 mki mdn mun mkt mhd mho mtk2_186 mgl mre mag fr fk mv gs_ ft2_186 P_; first | exact fun h => ⟨hpi h, rfl, rfl, hpd h⟩ | exact fun _ => ⟨hpi3, hct3, hms3, hpd3⟩)
      · have d_50 := c_50
        simp only [kt_lt, kt_le, kt_eq, kt_c0, kt_c1, kt_c2, kt_c3, kt_c4, kt_c8, kt_c9, kt_cm1, kt_c81, kt_c40, kt_c7, kt_c5, kt_c6, kt_c512, kt_c10, kt_c10000] at d_50
        
        refine lv_iload_n hx hb dX11_best_53 rfl (lv_at hl 4 rfl) ?_
        refine lv_if_ne (tgt := 177) hx hb dX11_best_54 (by decide) (fun c_54 => ?_) (fun c_54 => ?_)
        · have d_54 := c_54
          simp only [kt_lt, kt_le, kt_eq, kt_c0, kt_c1, kt_c2, kt_c3, kt_c4, kt_c8, kt_c9, kt_cm1, kt_c81, kt_c40, kt_c7, kt_c5, kt_c6, kt_c512, kt_c10, kt_c10000] at d_54
          refine lv_aload_n hx hb dX11_best_177 rfl (lv_at hl 6 rfl) ?_
          have hrj := hpl0.inj (n := mdn.toInt.toNat) (by omega)
          have hrd := (hrows mdn.toInt.toNat (by omega)).1
          refine lv_aload_n hx hb dX11_best_178 rfl (lv_at hl 6 rfl) ?_
          refine va_get (D := D) (ci := 11) (C := RX11) (T := TX11) (N := 29) hx hb hts iw_X11_best_X11 hown hK hP 0 rfl rfl 18 (by decide) (hts (.fieldLink RX11 138 "KingTableModel" "done" "I") (kt_wp_X11_best__X11_best_r1 kt_wm4)) (fun _ h9 => h9) rfl dX11_best_179 ?_
          refine kt_bv (wc := [(mx, .inr (11, [.int ml, .int mw, .ref ms, .int mgl, .int mhd, .int mre, .int mag, .int mkt, .int mho, .int mpc, .int asd, .int mki, .ref mk, .ref ma, .ref mo, .ref mg, .ref mm, .ref mt, .int mdn, .int mun, .ref mn, .int atk, .ref me, .ref mq, .int msv, .ref mwo, .ref md, .ref mf, .ref mr])), (ma, .inl (cI, 40, .inl a1)), (mo, .inl (cI, 81, .inl a2)), (mt, .inl (cB, 172241, .inl gs_))]) (wr := [(mg, .inl (cI, 81, .inl fr)), (mk, .inl (cI, 40, .inl fk)), (mn, .inl (cZ, 40, .inl a3)), (mwo, .inl (cI, 10000, .inl gw)), (md, .inl (cI, 10000, .inl gd))]) [0, 1, 2, 6] [3, 4, 5, 7, 8] hP hD hS hA rfl rfl (by decide) (by decide) (by decide) (fun hPc hDc => va_runV (As := [.int mdn]) (rest := []) ⟨hx, hb, hml, hown, hts⟩ (c_X11_readE l D cI cZ cB H.size mx ms mk ma mo mg mm mt mn me mq mwo md mf mr ml mw mgl mhd mre mag mkt mho mpc asd mki mdn mun atk msv P_ a1 a2 gs_ mdn hml_ hmw hpc (by omega) hrd hrj) (cwV 1 hts gX11_best_X11_read rfl rfl rfl (by decide +kernel) ⟨Nat.le_of_ble_eq_true rfl, Nat.le_of_ble_eq_true rfl⟩) (kt_preV hN hK hPc hDc 0 (ci := 11) (q := (RX11, TX11, 29)) rfl rfl) rfl rfl hl.1 rfl (lv_room (Nat.le_of_ble_eq_true rfl)) dX11_best_182 ⟨Nat.le_of_ble_eq_true rfl, Nat.le_of_ble_eq_true rfl⟩) (fun u_ H locs hw_182 hP hD hS => ?_)
          obtain ⟨fa2_182, fo2_182, msd2_182⟩ := u_
          have hP : va_P D vwCl [(mx, .inr (11, [.int ml, .int mw, .ref ms, .int mgl, .int mhd, .int mre, .int mag, .int mkt, .int mho, .int mpc, .int msd2_182, .int mki, .ref mk, .ref ma, .ref mo, .ref mg, .ref mm, .ref mt, .int mdn, .int mun, .ref mn, .int atk, .ref me, .ref mq, .int msv, .ref mwo, .ref md, .ref mf, .ref mr])), (ma, .inl (cI, 40, .inl fa2_182)), (mo, .inl (cI, 81, .inl fo2_182)), (mg, .inl (cI, 81, .inl fr)), (mk, .inl (cI, 40, .inl fk)), (mn, .inl (cZ, 40, .inl a3)), (mt, .inl (cB, 172241, .inl gs_)), (mwo, .inl (cI, 10000, .inl gw)), (md, .inl (cI, 10000, .inl gd))] H := hP.sub [5, 6, 7, 0, 1, 2, 8, 3, 4] rfl
          have hD : va_D A [(mx, .inr (11, [.int ml, .int mw, .ref ms, .int mgl, .int mhd, .int mre, .int mag, .int mkt, .int mho, .int mpc, .int msd2_182, .int mki, .ref mk, .ref ma, .ref mo, .ref mg, .ref mm, .ref mt, .int mdn, .int mun, .ref mn, .int atk, .ref me, .ref mq, .int msv, .ref mwo, .ref md, .ref mf, .ref mr])), (ma, .inl (cI, 40, .inl fa2_182)), (mo, .inl (cI, 81, .inl fo2_182)), (mg, .inl (cI, 81, .inl fr)), (mk, .inl (cI, 40, .inl fk)), (mn, .inl (cZ, 40, .inl a3)), (mt, .inl (cB, 172241, .inl gs_)), (mwo, .inl (cI, 10000, .inl gw)), (md, .inl (cI, 10000, .inl gd))] := hD.sub [5, 6, 7, 0, 1, 2, 8, 3, 4] (by decide) rfl
          try dsimp only at hw_182
          obtain ⟨hfc3, hsd3, hrd3, hrs3⟩ := hw_182
          have hct3 : kt_cut P_ fa2_182 = kt_cut P_ fa := by
            rw [hcut, ← (hrows mdn.toInt.toNat (by omega)).2]
            exact kt_cut_eq (fun j hj => hrd3 j hj)
          have hpi3 := hpl0.rows (by omega) (fun _ _ => rfl) hsd3 hfc3 hct3
          refine lv_aload_n hx hb dX11_best_185 rfl (lv_at hl 6 rfl) ?_
          refine kt_bv (wc := [(mx, .inr (11, [.int ml, .int mw, .ref ms, .int mgl, .int mhd, .int mre, .int mag, .int mkt, .int mho, .int mpc, .int msd2_182, .int mki, .ref mk, .ref ma, .ref mo, .ref mg, .ref mm, .ref mt, .int mdn, .int mun, .ref mn, .int atk, .ref me, .ref mq, .int msv, .ref mwo, .ref md, .ref mf, .ref mr])), (mt, .inl (cB, 172241, .inl gs_)), (mn, .inl (cZ, 40, .inl a3))]) (wr := [(ma, .inl (cI, 40, .inl fa2_182)), (mo, .inl (cI, 81, .inl fo2_182)), (mg, .inl (cI, 81, .inl fr)), (mk, .inl (cI, 40, .inl fk)), (mwo, .inl (cI, 10000, .inl gw)), (md, .inl (cI, 10000, .inl gd))]) [0, 6, 5] [1, 2, 3, 4, 7, 8] hP hD hS hA rfl rfl (by decide) (by decide) (by decide) (fun hPc hDc => va_runV (As := []) (rest := []) ⟨hx, hb, hml, hown, hts⟩ (c_X11_lookAgainX l D cI cZ cB H.size mx ms mk ma mo mg mm mt mn me mq mwo md mf mr ml mw mgl mhd mre mag mkt mho mpc msd2_182 mki mdn mun atk msv P_ gs_ a3 hpc (by omega)) (cwV 0 hts gX11_best_X11_lookAgain rfl rfl rfl (by decide +kernel) ⟨Nat.le_of_ble_eq_true rfl, Nat.le_of_ble_eq_true rfl⟩) (kt_preV hN hK hPc hDc 0 (ci := 11) (q := (RX11, TX11, 29)) rfl rfl) rfl rfl hl.1 rfl (lv_room (Nat.le_of_ble_eq_true rfl)) dX11_best_186 ⟨Nat.le_of_ble_eq_true rfl, Nat.le_of_ble_eq_true rfl⟩) (fun u_ H locs hw_186 hP hD hS => ?_)
          obtain ⟨mtk2_186, ft2_186⟩ := u_
          have hP : va_P D vwCl [(mx, .inr (11, [.int ml, .int mw, .ref ms, .int mgl, .int mhd, .int mre, .int mag, .int mkt, .int mho, .int mpc, .int msd2_182, .int mki, .ref mk, .ref ma, .ref mo, .ref mg, .ref mm, .ref mt, .int mdn, .int mun, .ref mn, .int mtk2_186, .ref me, .ref mq, .int msv, .ref mwo, .ref md, .ref mf, .ref mr])), (ma, .inl (cI, 40, .inl fa2_182)), (mo, .inl (cI, 81, .inl fo2_182)), (mg, .inl (cI, 81, .inl fr)), (mk, .inl (cI, 40, .inl fk)), (mn, .inl (cZ, 40, .inl ft2_186)), (mt, .inl (cB, 172241, .inl gs_)), (mwo, .inl (cI, 10000, .inl gw)), (md, .inl (cI, 10000, .inl gd))] H := hP.sub [6, 0, 1, 2, 3, 8, 7, 4, 5] rfl
          have hD : va_D A [(mx, .inr (11, [.int ml, .int mw, .ref ms, .int mgl, .int mhd, .int mre, .int mag, .int mkt, .int mho, .int mpc, .int msd2_182, .int mki, .ref mk, .ref ma, .ref mo, .ref mg, .ref mm, .ref mt, .int mdn, .int mun, .ref mn, .int mtk2_186, .ref me, .ref mq, .int msv, .ref mwo, .ref md, .ref mf, .ref mr])), (ma, .inl (cI, 40, .inl fa2_182)), (mo, .inl (cI, 81, .inl fo2_182)), (mg, .inl (cI, 81, .inl fr)), (mk, .inl (cI, 40, .inl fk)), (mn, .inl (cZ, 40, .inl ft2_186)), (mt, .inl (cB, 172241, .inl gs_)), (mwo, .inl (cI, 10000, .inl gw)), (md, .inl (cI, 10000, .inl gd))] := hD.sub [6, 0, 1, 2, 3, 8, 7, 4, 5] (by decide) rfl
          try dsimp only at hw_186
          obtain ⟨hl0, hl1, hl2⟩ := hw_186
          have hpd3 := hpd0.rows hpc.2 hdn0 (fun _ _ => rfl) (fun n hn => (hrows n hn).2) hrs3 hl0 hl1 hl2
          have hms3 : msd2_182 = msd := (kt_eq _ _).mpr (hpd3.2.1.1.trans hpd0.2.1.1.symm)
          refine lv_iload_n hx hb dX11_best_189 rfl (lv_at hl 3 rfl) ?_
          exact kt_ri (mtk2_186, msd2_182, fa2_182, fo2_182, ft2_186) hx hb hr hlk hS dX11_best_190 hP hD (by show ¬ mho.toInt = 0 → kt_PI ml mw mpc msd2_182 mki mdn mun mkt mhd fr fk fa2_182 fo2_182 mv gs_ P_ ∧ kt_cut P_ fa2_182 = kt_cut P_ fa ∧ msd2_182 = msd ∧ kt_PD ml mw msd2_182 mki mdn mun mkt mhd mho mtk2_186 mgl mre mag fr fk mv gs_ ft2_186 P_; first | exact fun h => ⟨hpi h, rfl, rfl, hpd h⟩ | exact fun _ => ⟨hpi3, hct3, hms3, hpd3⟩)
        · have d_54 := c_54
          simp only [kt_lt, kt_le, kt_eq, kt_c0, kt_c1, kt_c2, kt_c3, kt_c4, kt_c8, kt_c9, kt_cm1, kt_c81, kt_c40, kt_c7, kt_c5, kt_c6, kt_c512, kt_c10, kt_c10000] at d_54
          refine lv_aload_n hx hb dX11_best_57 rfl (lv_at hl 6 rfl) ?_
          refine lv_iload_n hx hb dX11_best_58 rfl (lv_at hl 5 rfl) ?_
          refine lv_iload hx hb dX11_best_59 (lv_at hl 0 rfl) ?_
          refine kt_bi (wc := [(mx, .inr (11, [.int ml, .int mw, .ref ms, .int mgl, .int mhd, .int mre, .int mag, .int mkt, .int mho, .int mpc, .int asd, .int mki, .ref mk, .ref ma, .ref mo, .ref mg, .ref mm, .ref mt, .int mdn, .int mun, .ref mn, .int atk, .ref me, .ref mq, .int msv, .ref mwo, .ref md, .ref mf, .ref mr])), (ma, .inl (cI, 40, .inl a1)), (mo, .inl (cI, 81, .inl a2)), (mg, .inl (cI, 81, .inl fr)), (mk, .inl (cI, 40, .inl fk)), (mn, .inl (cZ, 40, .inl a3))]) (wr := [(mt, .inl (cB, 172241, .inl gs_)), (mwo, .inl (cI, 10000, .inl gw)), (md, .inl (cI, 10000, .inl gd))]) [0, 1, 2, 3, 4, 5] [6, 7, 8] hP hD hS hA rfl rfl (by decide) (by decide) (by decide) (fun hPc hDc => va_runV (As := [.int r_10, .int mv_]) (rest := []) ⟨hx, hb, hml, hown, hts⟩ (c_X11_leads l D cI cZ cB H.size mx ms mk ma mo mg mm mt mn me mq mwo md mf mr ml mw mgl mhd mre mag mkt mho mpc asd mki mdn mun atk msv P_ a1 a2 fr fk a3 gw r_10 mv_ hml_ hmw hpc hfa hco hsd hst_ (by omega) (by omega)) (cwV 2 hts gX11_best_X11_leads rfl rfl rfl (by decide +kernel) ⟨Nat.le_of_ble_eq_true rfl, Nat.le_of_ble_eq_true rfl⟩) (kt_preV hN hK hPc hDc 0 (ci := 11) (q := (RX11, TX11, 29)) rfl rfl) rfl rfl hl.1 rfl (lv_room (Nat.le_of_ble_eq_true rfl)) dX11_best_61 ⟨Nat.le_of_ble_eq_true rfl, Nat.le_of_ble_eq_true rfl⟩) (fun r_61 u_ H locs hw_61 hP hD hS => ?_)
          obtain ⟨z1_61, z2_61, z3_61, ztk_61, zsd_61⟩ := u_
          have hP : va_P D vwCl [(mx, .inr (11, [.int ml, .int mw, .ref ms, .int mgl, .int mhd, .int mre, .int mag, .int mkt, .int mho, .int mpc, .int zsd_61, .int mki, .ref mk, .ref ma, .ref mo, .ref mg, .ref mm, .ref mt, .int mdn, .int mun, .ref mn, .int ztk_61, .ref me, .ref mq, .int msv, .ref mwo, .ref md, .ref mf, .ref mr])), (ma, .inl (cI, 40, .inl z1_61)), (mo, .inl (cI, 81, .inl z2_61)), (mg, .inl (cI, 81, .inl fr)), (mk, .inl (cI, 40, .inl fk)), (mn, .inl (cZ, 40, .inl z3_61)), (mt, .inl (cB, 172241, .inl gs_)), (mwo, .inl (cI, 10000, .inl gw)), (md, .inl (cI, 10000, .inl gd))] H := hP.sub [3, 4, 5, 6, 7, 8, 0, 1, 2] rfl
          have hD : va_D A [(mx, .inr (11, [.int ml, .int mw, .ref ms, .int mgl, .int mhd, .int mre, .int mag, .int mkt, .int mho, .int mpc, .int zsd_61, .int mki, .ref mk, .ref ma, .ref mo, .ref mg, .ref mm, .ref mt, .int mdn, .int mun, .ref mn, .int ztk_61, .ref me, .ref mq, .int msv, .ref mwo, .ref md, .ref mf, .ref mr])), (ma, .inl (cI, 40, .inl z1_61)), (mo, .inl (cI, 81, .inl z2_61)), (mg, .inl (cI, 81, .inl fr)), (mk, .inl (cI, 40, .inl fk)), (mn, .inl (cZ, 40, .inl z3_61)), (mt, .inl (cB, 172241, .inl gs_)), (mwo, .inl (cI, 10000, .inl gw)), (md, .inl (cI, 10000, .inl gd))] := hD.sub [3, 4, 5, 6, 7, 8, 0, 1, 2] (by decide) rfl
          try dsimp only at hw_61
          obtain ⟨hr_, hfa, hco, hsd⟩ := hw_61
          refine lv_istore (lv' := [(7, .int r_61), (6, .int mv_), (5, .int t_35), (4, .int bd), (3, .int bs), (2, .int en), (1, .int r_10), (0, .ref mx)]) hx hb dX11_best_64 hl (by decide) rfl (fun ls hl => ?_)
          refine lv_iload hx hb dX11_best_66 (lv_at hl 0 rfl) ?_
          refine lv_iconst (v := (-1)) hx hb dX11_best_68 (by decide) ?_
          refine lv_icmp_eq (tgt := 171) hx hb dX11_best_69 (by decide) (fun c_69 => ?_) (fun c_69 => ?_)
          · have d_69 := c_69
            simp only [kt_lt, kt_le, kt_eq, kt_c0, kt_c1, kt_c2, kt_c3, kt_c4, kt_c8, kt_c9, kt_cm1, kt_c81, kt_c40, kt_c7, kt_c5, kt_c6, kt_c512, kt_c10, kt_c10000] at d_69
            obtain ⟨t_171, et_171⟩ : ∃ y : Int32, y = mv_ + 1 := ⟨_, rfl⟩
            obtain ⟨k_171, hk_171, hm_171, hM_171⟩ := kt_addk et_171
            try simp only [kt_c0, kt_c1, kt_c2, kt_c3, kt_c4, kt_c8, kt_c9, kt_cm1, kt_c81, kt_c40, kt_c7, kt_c5, kt_c6, kt_c512, kt_c10, kt_c10000] at hk_171
            refine lv_iinc (v := t_171) (lv' := [(6, .int t_171), (7, .int r_61), (5, .int t_35), (4, .int bd), (3, .int bs), (2, .int en), (1, .int r_10), (0, .ref mx)]) hx hb dX11_best_171 hl (k := 1) rfl (by rw [et_171]; rfl) (by decide) rfl (fun ls hl => ?_)
            refine lv_goto (tgt := 41) hx hb dX11_best_174 (by decide) ?_
            exact ih_41 (t_171, bs, bd, z1_61, z2_61, z3_61, ztk_61, zsd_61) (by show (0 ≤ t_171.toInt ∧ t_171.toInt ≤ 1280 ∧ 1280 < t_171.toInt + n_41) ∧ kt_r z1_61 P_ (-1) (ml.toInt * mw.toInt - 1) ∧ kt_con z2_61 z1_61 P_ ∧ (0 ≤ zsd_61.toInt ∧ zsd_61.toInt ≤ 1); exact ⟨by omega, hfa, hco, hsd⟩) H _ hP hD hS ls (lv_sub hl [0, 2, 3, 4, 5, 6, 7] rfl)
          · have d_69 := c_69
            simp only [kt_lt, kt_le, kt_eq, kt_c0, kt_c1, kt_c2, kt_c3, kt_c4, kt_c8, kt_c9, kt_cm1, kt_c81, kt_c40, kt_c7, kt_c5, kt_c6, kt_c512, kt_c10, kt_c10000] at d_69
            refine lv_aload_n hx hb dX11_best_72 rfl (lv_at hl 7 rfl) ?_
            refine va_get (D := D) (ci := 11) (C := RX11) (T := TX11) (N := 29) hx hb hts iw_X11_best_X11 hown hK hP 0 rfl rfl 25 (by decide) (hts (.fieldLink RX11 57 "KingTableModel" "worths" "[I") (kt_wp_X11_best__X11_best_r1 kt_wm2)) (fun _ h9 => h9) rfl dX11_best_73 ?_
            refine lv_iload hx hb dX11_best_76 (lv_at hl 0 rfl) ?_
            have hi_1 : vp_in r_61 10000 := by exact kt_in (by omega) (by omega)
            refine va_iald hx hb hK hP 7 0 rfl rfl hi_1 dX11_best_78 ?_
            refine lv_topi (fun a_78 ea_78 => ?_)
            refine lv_aload_n hx hb dX11_best_79 rfl (lv_at hl 7 rfl) ?_
            refine va_get (D := D) (ci := 11) (C := RX11) (T := TX11) (N := 29) hx hb hts iw_X11_best_X11 hown hK hP 0 rfl rfl 25 (by decide) (hts (.fieldLink RX11 57 "KingTableModel" "worths" "[I") (kt_wp_X11_best__X11_best_r1 kt_wm2)) (fun _ h9 => h9) rfl dX11_best_80 ?_
            refine lv_iload_n hx hb dX11_best_83 rfl (lv_at hl 6 rfl) ?_
            have hi_2 : vp_in r_10 10000 := by exact kt_in (by omega) (by omega)
            refine va_iald hx hb hK hP 7 0 rfl rfl hi_2 dX11_best_84 ?_
            refine lv_topi (fun a_84 ea_84 => ?_)
            refine lv_icmp_eq (tgt := 91) hx hb dX11_best_85 (by decide) (fun c_85 => ?_) (fun c_85 => ?_)
            · have d_85 := c_85
              simp only [kt_lt, kt_le, kt_eq, kt_c0, kt_c1, kt_c2, kt_c3, kt_c4, kt_c8, kt_c9, kt_cm1, kt_c81, kt_c40, kt_c7, kt_c5, kt_c6, kt_c512, kt_c10, kt_c10000] at d_85
              refine lv_iload_n hx hb dX11_best_91 rfl (lv_at hl 4 rfl) ?_
              refine lv_iconst (v := (-1)) hx hb dX11_best_92 (by decide) ?_
              refine kt_join (σ := Int32) 149 9 (fun u => [(mx, .inr (11, [.int ml, .int mw, .ref ms, .int mgl, .int mhd, .int mre, .int mag, .int mkt, .int mho, .int mpc, .int zsd_61, .int mki, .ref mk, .ref ma, .ref mo, .ref mg, .ref mm, .ref mt, .int mdn, .int mun, .ref mn, .int ztk_61, .ref me, .ref mq, .int msv, .ref mwo, .ref md, .ref mf, .ref mr])), (ma, .inl (cI, 40, .inl z1_61)), (mo, .inl (cI, 81, .inl z2_61)), (mg, .inl (cI, 81, .inl fr)), (mk, .inl (cI, 40, .inl fk)), (mn, .inl (cZ, 40, .inl z3_61)), (mt, .inl (cB, 172241, .inl gs_)), (mwo, .inl (cI, 10000, .inl gw)), (md, .inl (cI, 10000, .inl gd))]) (fun u => [(7, .int r_61), (6, .int mv_), (5, .int t_35), (4, .int bd), (3, .int bs), (2, .int en), (1, .int r_10), (0, .ref mx)]) (fun u => [.int u]) (fun u => True) (D := D) (A := A) (H0 := s.heap) (fun u hI H locs hP hD hS ls hl => ?_) (fun j_149 => ?_)
              · obtain ⟨bt, rfl⟩ : ∃ z, z = u := ⟨_, rfl⟩
                have hP : va_P D vwCl [(mx, .inr (11, [.int ml, .int mw, .ref ms, .int mgl, .int mhd, .int mre, .int mag, .int mkt, .int mho, .int mpc, .int zsd_61, .int mki, .ref mk, .ref ma, .ref mo, .ref mg, .ref mm, .ref mt, .int mdn, .int mun, .ref mn, .int ztk_61, .ref me, .ref mq, .int msv, .ref mwo, .ref md, .ref mf, .ref mr])), (ma, .inl (cI, 40, .inl z1_61)), (mo, .inl (cI, 81, .inl z2_61)), (mg, .inl (cI, 81, .inl fr)), (mk, .inl (cI, 40, .inl fk)), (mn, .inl (cZ, 40, .inl z3_61)), (mt, .inl (cB, 172241, .inl gs_)), (mwo, .inl (cI, 10000, .inl gw)), (md, .inl (cI, 10000, .inl gd))] H := hP
                have hD : va_D A [(mx, .inr (11, [.int ml, .int mw, .ref ms, .int mgl, .int mhd, .int mre, .int mag, .int mkt, .int mho, .int mpc, .int zsd_61, .int mki, .ref mk, .ref ma, .ref mo, .ref mg, .ref mm, .ref mt, .int mdn, .int mun, .ref mn, .int ztk_61, .ref me, .ref mq, .int msv, .ref mwo, .ref md, .ref mf, .ref mr])), (ma, .inl (cI, 40, .inl z1_61)), (mo, .inl (cI, 81, .inl z2_61)), (mg, .inl (cI, 81, .inl fr)), (mk, .inl (cI, 40, .inl fk)), (mn, .inl (cZ, 40, .inl z3_61)), (mt, .inl (cB, 172241, .inl gs_)), (mwo, .inl (cI, 10000, .inl gw)), (md, .inl (cI, 10000, .inl gd))] := hD
                have hl : lv_has ls 9 [(7, .int r_61), (6, .int mv_), (5, .int t_35), (4, .int bd), (3, .int bs), (2, .int en), (1, .int r_10), (0, .ref mx)] := hl
                refine lv_istore (lv' := [(8, .int bt), (7, .int r_61), (6, .int mv_), (5, .int t_35), (4, .int bd), (3, .int bs), (2, .int en), (1, .int r_10), (0, .ref mx)]) hx hb dX11_best_149 hl (by decide) rfl (fun ls hl => ?_)
                refine lv_iload hx hb dX11_best_151 (lv_at hl 0 rfl) ?_
                refine lv_if_ne (tgt := 159) hx hb dX11_best_153 (by decide) (fun c_153 => ?_) (fun c_153 => ?_)
                · have d_153 := c_153
                  simp only [kt_lt, kt_le, kt_eq, kt_c0, kt_c1, kt_c2, kt_c3, kt_c4, kt_c8, kt_c9, kt_cm1, kt_c81, kt_c40, kt_c7, kt_c5, kt_c6, kt_c512, kt_c10, kt_c10000] at d_153
                  refine lv_iload hx hb dX11_best_159 (lv_at hl 2 rfl) ?_
                  refine lv_istore_n (lv' := [(3, .int mv_), (8, .int bt), (7, .int r_61), (6, .int mv_), (5, .int t_35), (4, .int bd), (2, .int en), (1, .int r_10), (0, .ref mx)]) hx hb dX11_best_161 rfl hl (by decide) rfl (fun ls hl => ?_)
                  refine lv_aload_n hx hb dX11_best_162 rfl (lv_at hl 8 rfl) ?_
                  refine va_get (D := D) (ci := 11) (C := RX11) (T := TX11) (N := 29) hx hb hts iw_X11_best_X11 hown hK hP 0 rfl rfl 26 (by decide) (hts (.fieldLink RX11 60 "KingTableModel" "deeps" "[I") (kt_wp_X11_best__X11_best_r1 kt_wm3)) (fun _ h9 => h9) rfl dX11_best_163 ?_
                  refine lv_iload hx hb dX11_best_166 (lv_at hl 2 rfl) ?_
                  have hi_3 : vp_in r_61 10000 := by exact kt_in (by omega) (by omega)
                  refine va_iald hx hb hK hP 8 0 rfl rfl hi_3 dX11_best_168 ?_
                  refine lv_topi (fun a_168 ea_168 => ?_)
                  refine lv_istore (lv' := [(4, .int a_168), (3, .int mv_), (8, .int bt), (7, .int r_61), (6, .int mv_), (5, .int t_35), (2, .int en), (1, .int r_10), (0, .ref mx)]) hx hb dX11_best_169 hl (by decide) rfl (fun ls hl => ?_)
                  obtain ⟨t_171, et_171⟩ : ∃ y : Int32, y = mv_ + 1 := ⟨_, rfl⟩
                  obtain ⟨k_171, hk_171, hm_171, hM_171⟩ := kt_addk et_171
                  try simp only [kt_c0, kt_c1, kt_c2, kt_c3, kt_c4, kt_c8, kt_c9, kt_cm1, kt_c81, kt_c40, kt_c7, kt_c5, kt_c6, kt_c512, kt_c10, kt_c10000] at hk_171
                  refine lv_iinc (v := t_171) (lv' := [(6, .int t_171), (4, .int a_168), (3, .int mv_), (8, .int bt), (7, .int r_61), (5, .int t_35), (2, .int en), (1, .int r_10), (0, .ref mx)]) hx hb dX11_best_171 hl (k := 4) rfl (by rw [et_171]; rfl) (by decide) rfl (fun ls hl => ?_)
                  refine lv_goto (tgt := 41) hx hb dX11_best_174 (by decide) ?_
                  exact ih_41 (t_171, mv_, a_168, z1_61, z2_61, z3_61, ztk_61, zsd_61) (by show (0 ≤ t_171.toInt ∧ t_171.toInt ≤ 1280 ∧ 1280 < t_171.toInt + n_41) ∧ kt_r z1_61 P_ (-1) (ml.toInt * mw.toInt - 1) ∧ kt_con z2_61 z1_61 P_ ∧ (0 ≤ zsd_61.toInt ∧ zsd_61.toInt ≤ 1); exact ⟨by omega, hfa, hco, hsd⟩) H _ hP hD hS ls (lv_sub hl [0, 5, 1, 2, 6, 7, 8] rfl)
                · have d_153 := c_153
                  simp only [kt_lt, kt_le, kt_eq, kt_c0, kt_c1, kt_c2, kt_c3, kt_c4, kt_c8, kt_c9, kt_cm1, kt_c81, kt_c40, kt_c7, kt_c5, kt_c6, kt_c512, kt_c10, kt_c10000] at d_153
                  refine lv_goto (tgt := 171) hx hb dX11_best_156 (by decide) ?_
                  obtain ⟨t_171, et_171⟩ : ∃ y : Int32, y = mv_ + 1 := ⟨_, rfl⟩
                  obtain ⟨k_171, hk_171, hm_171, hM_171⟩ := kt_addk et_171
                  try simp only [kt_c0, kt_c1, kt_c2, kt_c3, kt_c4, kt_c8, kt_c9, kt_cm1, kt_c81, kt_c40, kt_c7, kt_c5, kt_c6, kt_c512, kt_c10, kt_c10000] at hk_171
                  refine lv_iinc (v := t_171) (lv' := [(6, .int t_171), (8, .int bt), (7, .int r_61), (5, .int t_35), (4, .int bd), (3, .int bs), (2, .int en), (1, .int r_10), (0, .ref mx)]) hx hb dX11_best_171 hl (k := 2) rfl (by rw [et_171]; rfl) (by decide) rfl (fun ls hl => ?_)
                  refine lv_goto (tgt := 41) hx hb dX11_best_174 (by decide) ?_
                  exact ih_41 (t_171, bs, bd, z1_61, z2_61, z3_61, ztk_61, zsd_61) (by show (0 ≤ t_171.toInt ∧ t_171.toInt ≤ 1280 ∧ 1280 < t_171.toInt + n_41) ∧ kt_r z1_61 P_ (-1) (ml.toInt * mw.toInt - 1) ∧ kt_con z2_61 z1_61 P_ ∧ (0 ≤ zsd_61.toInt ∧ zsd_61.toInt ≤ 1); exact ⟨by omega, hfa, hco, hsd⟩) H _ hP hD hS ls (lv_sub hl [0, 3, 4, 5, 6, 7, 8] rfl)
              refine lv_icmp_eq (tgt := 144) hx hb dX11_best_93 (by decide) (fun c_93 => ?_) (fun c_93 => ?_)
              · have d_93 := c_93
                simp only [kt_lt, kt_le, kt_eq, kt_c0, kt_c1, kt_c2, kt_c3, kt_c4, kt_c8, kt_c9, kt_cm1, kt_c81, kt_c40, kt_c7, kt_c5, kt_c6, kt_c512, kt_c10, kt_c10000] at d_93
                refine lv_iconst (v := 1) hx hb dX11_best_144 (by decide) ?_
                refine lv_goto (tgt := 149) hx hb dX11_best_145 (by decide) ?_
                exact j_149 (1 : Int32) (by trivial) H _ hP hD hS ls (lv_sub hl [0, 1, 2, 3, 4, 5, 6, 7] rfl)
              · have d_93 := c_93
                simp only [kt_lt, kt_le, kt_eq, kt_c0, kt_c1, kt_c2, kt_c3, kt_c4, kt_c8, kt_c9, kt_cm1, kt_c81, kt_c40, kt_c7, kt_c5, kt_c6, kt_c512, kt_c10, kt_c10000] at d_93
                refine lv_aload_n hx hb dX11_best_96 rfl (lv_at hl 7 rfl) ?_
                refine va_get (D := D) (ci := 11) (C := RX11) (T := TX11) (N := 29) hx hb hts iw_X11_best_X11 hown hK hP 0 rfl rfl 25 (by decide) (hts (.fieldLink RX11 57 "KingTableModel" "worths" "[I") (kt_wp_X11_best__X11_best_r1 kt_wm2)) (fun _ h9 => h9) rfl dX11_best_97 ?_
                refine lv_iload_n hx hb dX11_best_100 rfl (lv_at hl 6 rfl) ?_
                have hi_4 : vp_in r_10 10000 := by exact kt_in (by omega) (by omega)
                refine va_iald hx hb hK hP 7 0 rfl rfl hi_4 dX11_best_101 ?_
                refine lv_topi (fun a_101 ea_101 => ?_)
                refine lv_iload hx hb dX11_best_102 (lv_at hl 2 rfl) ?_
                refine lv_icmp_ne (tgt := 119) hx hb dX11_best_104 (by decide) (fun c_104 => ?_) (fun c_104 => ?_)
                · have d_104 := c_104
                  simp only [kt_lt, kt_le, kt_eq, kt_c0, kt_c1, kt_c2, kt_c3, kt_c4, kt_c8, kt_c9, kt_cm1, kt_c81, kt_c40, kt_c7, kt_c5, kt_c6, kt_c512, kt_c10, kt_c10000] at d_104
                  refine lv_aload_n hx hb dX11_best_119 rfl (lv_at hl 7 rfl) ?_
                  refine va_get (D := D) (ci := 11) (C := RX11) (T := TX11) (N := 29) hx hb hts iw_X11_best_X11 hown hK hP 0 rfl rfl 25 (by decide) (hts (.fieldLink RX11 57 "KingTableModel" "worths" "[I") (kt_wp_X11_best__X11_best_r1 kt_wm2)) (fun _ h9 => h9) rfl dX11_best_120 ?_
                  refine lv_iload_n hx hb dX11_best_123 rfl (lv_at hl 6 rfl) ?_
                  have hi_5 : vp_in r_10 10000 := by exact kt_in (by omega) (by omega)
                  refine va_iald hx hb hK hP 7 0 rfl rfl hi_5 dX11_best_124 ?_
                  refine lv_topi (fun a_124 ea_124 => ?_)
                  refine lv_iconst (v := 1) hx hb dX11_best_125 (by decide) ?_
                  refine lv_iload hx hb dX11_best_126 (lv_at hl 2 rfl) ?_
                  refine lv_isub hx hb dX11_best_128 ?_
                  refine lv_topi (fun t_128 et_128 => ?_)
                  first | have hk_128 := kt_subx et_128 (by first | omega | (simp only [kt_c0, kt_c1, kt_c2, kt_c3, kt_c4, kt_c8, kt_c9, kt_cm1, kt_c81, kt_c40, kt_c7, kt_c5, kt_c6, kt_c512, kt_c10, kt_c10000]; omega)) (by first | omega | (simp only [kt_c0, kt_c1, kt_c2, kt_c3, kt_c4, kt_c8, kt_c9, kt_cm1, kt_c81, kt_c40, kt_c7, kt_c5, kt_c6, kt_c512, kt_c10, kt_c10000]; omega)) | obtain ⟨k_128, hk_128, hm_128, hM_128⟩ := kt_subk et_128
                  try simp only [kt_c0, kt_c1, kt_c2, kt_c3, kt_c4, kt_c8, kt_c9, kt_cm1, kt_c81, kt_c40, kt_c7, kt_c5, kt_c6, kt_c512, kt_c10, kt_c10000] at hk_128
                  refine lv_icmp_ne (tgt := 148) hx hb dX11_best_129 (by decide) (fun c_129 => ?_) (fun c_129 => ?_)
                  · have d_129 := c_129
                    simp only [kt_lt, kt_le, kt_eq, kt_c0, kt_c1, kt_c2, kt_c3, kt_c4, kt_c8, kt_c9, kt_cm1, kt_c81, kt_c40, kt_c7, kt_c5, kt_c6, kt_c512, kt_c10, kt_c10000] at d_129
                    refine lv_iconst (v := 0) hx hb dX11_best_148 (by decide) ?_
                    exact j_149 (0 : Int32) (by trivial) H _ hP hD hS ls (lv_sub hl [0, 1, 2, 3, 4, 5, 6, 7] rfl)
                  · have d_129 := c_129
                    simp only [kt_lt, kt_le, kt_eq, kt_c0, kt_c1, kt_c2, kt_c3, kt_c4, kt_c8, kt_c9, kt_cm1, kt_c81, kt_c40, kt_c7, kt_c5, kt_c6, kt_c512, kt_c10, kt_c10000] at d_129
                    refine lv_aload_n hx hb dX11_best_132 rfl (lv_at hl 7 rfl) ?_
                    refine va_get (D := D) (ci := 11) (C := RX11) (T := TX11) (N := 29) hx hb hts iw_X11_best_X11 hown hK hP 0 rfl rfl 26 (by decide) (hts (.fieldLink RX11 60 "KingTableModel" "deeps" "[I") (kt_wp_X11_best__X11_best_r1 kt_wm3)) (fun _ h9 => h9) rfl dX11_best_133 ?_
                    refine lv_iload hx hb dX11_best_136 (lv_at hl 0 rfl) ?_
                    have hi_6 : vp_in r_61 10000 := by exact kt_in (by omega) (by omega)
                    refine va_iald hx hb hK hP 8 0 rfl rfl hi_6 dX11_best_138 ?_
                    refine lv_topi (fun a_138 ea_138 => ?_)
                    refine lv_iload hx hb dX11_best_139 (lv_at hl 3 rfl) ?_
                    refine lv_icmp_le (tgt := 148) hx hb dX11_best_141 (by decide) (fun c_141 => ?_) (fun c_141 => ?_)
                    · have d_141 := c_141
                      simp only [kt_lt, kt_le, kt_eq, kt_c0, kt_c1, kt_c2, kt_c3, kt_c4, kt_c8, kt_c9, kt_cm1, kt_c81, kt_c40, kt_c7, kt_c5, kt_c6, kt_c512, kt_c10, kt_c10000] at d_141
                      refine lv_iconst (v := 0) hx hb dX11_best_148 (by decide) ?_
                      exact j_149 (0 : Int32) (by trivial) H _ hP hD hS ls (lv_sub hl [0, 1, 2, 3, 4, 5, 6, 7] rfl)
                    · have d_141 := c_141
                      simp only [kt_lt, kt_le, kt_eq, kt_c0, kt_c1, kt_c2, kt_c3, kt_c4, kt_c8, kt_c9, kt_cm1, kt_c81, kt_c40, kt_c7, kt_c5, kt_c6, kt_c512, kt_c10, kt_c10000] at d_141
                      refine lv_iconst (v := 1) hx hb dX11_best_144 (by decide) ?_
                      refine lv_goto (tgt := 149) hx hb dX11_best_145 (by decide) ?_
                      exact j_149 (1 : Int32) (by trivial) H _ hP hD hS ls (lv_sub hl [0, 1, 2, 3, 4, 5, 6, 7] rfl)
                · have d_104 := c_104
                  simp only [kt_lt, kt_le, kt_eq, kt_c0, kt_c1, kt_c2, kt_c3, kt_c4, kt_c8, kt_c9, kt_cm1, kt_c81, kt_c40, kt_c7, kt_c5, kt_c6, kt_c512, kt_c10, kt_c10000] at d_104
                  refine lv_aload_n hx hb dX11_best_107 rfl (lv_at hl 7 rfl) ?_
                  refine va_get (D := D) (ci := 11) (C := RX11) (T := TX11) (N := 29) hx hb hts iw_X11_best_X11 hown hK hP 0 rfl rfl 26 (by decide) (hts (.fieldLink RX11 60 "KingTableModel" "deeps" "[I") (kt_wp_X11_best__X11_best_r1 kt_wm3)) (fun _ h9 => h9) rfl dX11_best_108 ?_
                  refine lv_iload hx hb dX11_best_111 (lv_at hl 0 rfl) ?_
                  have hi_7 : vp_in r_61 10000 := by exact kt_in (by omega) (by omega)
                  refine va_iald hx hb hK hP 8 0 rfl rfl hi_7 dX11_best_113 ?_
                  refine lv_topi (fun a_113 ea_113 => ?_)
                  refine lv_iload hx hb dX11_best_114 (lv_at hl 3 rfl) ?_
                  refine lv_icmp_lt (tgt := 144) hx hb dX11_best_116 (by decide) (fun c_116 => ?_) (fun c_116 => ?_)
                  · have d_116 := c_116
                    simp only [kt_lt, kt_le, kt_eq, kt_c0, kt_c1, kt_c2, kt_c3, kt_c4, kt_c8, kt_c9, kt_cm1, kt_c81, kt_c40, kt_c7, kt_c5, kt_c6, kt_c512, kt_c10, kt_c10000] at d_116
                    refine lv_iconst (v := 1) hx hb dX11_best_144 (by decide) ?_
                    refine lv_goto (tgt := 149) hx hb dX11_best_145 (by decide) ?_
                    exact j_149 (1 : Int32) (by trivial) H _ hP hD hS ls (lv_sub hl [0, 1, 2, 3, 4, 5, 6, 7] rfl)
                  · have d_116 := c_116
                    simp only [kt_lt, kt_le, kt_eq, kt_c0, kt_c1, kt_c2, kt_c3, kt_c4, kt_c8, kt_c9, kt_cm1, kt_c81, kt_c40, kt_c7, kt_c5, kt_c6, kt_c512, kt_c10, kt_c10000] at d_116
                    refine lv_aload_n hx hb dX11_best_119 rfl (lv_at hl 7 rfl) ?_
                    refine va_get (D := D) (ci := 11) (C := RX11) (T := TX11) (N := 29) hx hb hts iw_X11_best_X11 hown hK hP 0 rfl rfl 25 (by decide) (hts (.fieldLink RX11 57 "KingTableModel" "worths" "[I") (kt_wp_X11_best__X11_best_r1 kt_wm2)) (fun _ h9 => h9) rfl dX11_best_120 ?_
                    refine lv_iload_n hx hb dX11_best_123 rfl (lv_at hl 6 rfl) ?_
                    have hi_8 : vp_in r_10 10000 := by exact kt_in (by omega) (by omega)
                    refine va_iald hx hb hK hP 7 0 rfl rfl hi_8 dX11_best_124 ?_
                    refine lv_topi (fun a_124 ea_124 => ?_)
                    refine lv_iconst (v := 1) hx hb dX11_best_125 (by decide) ?_
                    refine lv_iload hx hb dX11_best_126 (lv_at hl 2 rfl) ?_
                    refine lv_isub hx hb dX11_best_128 ?_
                    refine lv_topi (fun t_128 et_128 => ?_)
                    first | have hk_128 := kt_subx et_128 (by first | omega | (simp only [kt_c0, kt_c1, kt_c2, kt_c3, kt_c4, kt_c8, kt_c9, kt_cm1, kt_c81, kt_c40, kt_c7, kt_c5, kt_c6, kt_c512, kt_c10, kt_c10000]; omega)) (by first | omega | (simp only [kt_c0, kt_c1, kt_c2, kt_c3, kt_c4, kt_c8, kt_c9, kt_cm1, kt_c81, kt_c40, kt_c7, kt_c5, kt_c6, kt_c512, kt_c10, kt_c10000]; omega)) | obtain ⟨k_128, hk_128, hm_128, hM_128⟩ := kt_subk et_128
                    try simp only [kt_c0, kt_c1, kt_c2, kt_c3, kt_c4, kt_c8, kt_c9, kt_cm1, kt_c81, kt_c40, kt_c7, kt_c5, kt_c6, kt_c512, kt_c10, kt_c10000] at hk_128
                    refine lv_icmp_ne (tgt := 148) hx hb dX11_best_129 (by decide) (fun c_129 => ?_) (fun c_129 => ?_)
                    · have d_129 := c_129
                      simp only [kt_lt, kt_le, kt_eq, kt_c0, kt_c1, kt_c2, kt_c3, kt_c4, kt_c8, kt_c9, kt_cm1, kt_c81, kt_c40, kt_c7, kt_c5, kt_c6, kt_c512, kt_c10, kt_c10000] at d_129
                      refine lv_iconst (v := 0) hx hb dX11_best_148 (by decide) ?_
                      exact j_149 (0 : Int32) (by trivial) H _ hP hD hS ls (lv_sub hl [0, 1, 2, 3, 4, 5, 6, 7] rfl)
                    · have d_129 := c_129
                      simp only [kt_lt, kt_le, kt_eq, kt_c0, kt_c1, kt_c2, kt_c3, kt_c4, kt_c8, kt_c9, kt_cm1, kt_c81, kt_c40, kt_c7, kt_c5, kt_c6, kt_c512, kt_c10, kt_c10000] at d_129
                      refine lv_aload_n hx hb dX11_best_132 rfl (lv_at hl 7 rfl) ?_
                      refine va_get (D := D) (ci := 11) (C := RX11) (T := TX11) (N := 29) hx hb hts iw_X11_best_X11 hown hK hP 0 rfl rfl 26 (by decide) (hts (.fieldLink RX11 60 "KingTableModel" "deeps" "[I") (kt_wp_X11_best__X11_best_r1 kt_wm3)) (fun _ h9 => h9) rfl dX11_best_133 ?_
                      refine lv_iload hx hb dX11_best_136 (lv_at hl 0 rfl) ?_
                      have hi_9 : vp_in r_61 10000 := by exact kt_in (by omega) (by omega)
                      refine va_iald hx hb hK hP 8 0 rfl rfl hi_9 dX11_best_138 ?_
                      refine lv_topi (fun a_138 ea_138 => ?_)
                      refine lv_iload hx hb dX11_best_139 (lv_at hl 3 rfl) ?_
                      refine lv_icmp_le (tgt := 148) hx hb dX11_best_141 (by decide) (fun c_141 => ?_) (fun c_141 => ?_)
                      · have d_141 := c_141
                        simp only [kt_lt, kt_le, kt_eq, kt_c0, kt_c1, kt_c2, kt_c3, kt_c4, kt_c8, kt_c9, kt_cm1, kt_c81, kt_c40, kt_c7, kt_c5, kt_c6, kt_c512, kt_c10, kt_c10000] at d_141
                        refine lv_iconst (v := 0) hx hb dX11_best_148 (by decide) ?_
                        exact j_149 (0 : Int32) (by trivial) H _ hP hD hS ls (lv_sub hl [0, 1, 2, 3, 4, 5, 6, 7] rfl)
                      · have d_141 := c_141
                        simp only [kt_lt, kt_le, kt_eq, kt_c0, kt_c1, kt_c2, kt_c3, kt_c4, kt_c8, kt_c9, kt_cm1, kt_c81, kt_c40, kt_c7, kt_c5, kt_c6, kt_c512, kt_c10, kt_c10000] at d_141
                        refine lv_iconst (v := 1) hx hb dX11_best_144 (by decide) ?_
                        refine lv_goto (tgt := 149) hx hb dX11_best_145 (by decide) ?_
                        exact j_149 (1 : Int32) (by trivial) H _ hP hD hS ls (lv_sub hl [0, 1, 2, 3, 4, 5, 6, 7] rfl)
            · have d_85 := c_85
              simp only [kt_lt, kt_le, kt_eq, kt_c0, kt_c1, kt_c2, kt_c3, kt_c4, kt_c8, kt_c9, kt_cm1, kt_c81, kt_c40, kt_c7, kt_c5, kt_c6, kt_c512, kt_c10, kt_c10000] at d_85
              refine lv_goto (tgt := 171) hx hb dX11_best_88 (by decide) ?_
              obtain ⟨t_171, et_171⟩ : ∃ y : Int32, y = mv_ + 1 := ⟨_, rfl⟩
              obtain ⟨k_171, hk_171, hm_171, hM_171⟩ := kt_addk et_171
              try simp only [kt_c0, kt_c1, kt_c2, kt_c3, kt_c4, kt_c8, kt_c9, kt_cm1, kt_c81, kt_c40, kt_c7, kt_c5, kt_c6, kt_c512, kt_c10, kt_c10000] at hk_171
              refine lv_iinc (v := t_171) (lv' := [(6, .int t_171), (7, .int r_61), (5, .int t_35), (4, .int bd), (3, .int bs), (2, .int en), (1, .int r_10), (0, .ref mx)]) hx hb dX11_best_171 hl (k := 1) rfl (by rw [et_171]; rfl) (by decide) rfl (fun ls hl => ?_)
              refine lv_goto (tgt := 41) hx hb dX11_best_174 (by decide) ?_
              exact ih_41 (t_171, bs, bd, z1_61, z2_61, z3_61, ztk_61, zsd_61) (by show (0 ≤ t_171.toInt ∧ t_171.toInt ≤ 1280 ∧ 1280 < t_171.toInt + n_41) ∧ kt_r z1_61 P_ (-1) (ml.toInt * mw.toInt - 1) ∧ kt_con z2_61 z1_61 P_ ∧ (0 ≤ zsd_61.toInt ∧ zsd_61.toInt ≤ 1); exact ⟨by omega, hfa, hco, hsd⟩) H _ hP hD hS ls (lv_sub hl [0, 2, 3, 4, 5, 6, 7] rfl)
    refine lv_icmp_eq (tgt := 26) hx hb dX11_best_19 (by decide) (fun c_19 => ?_) (fun c_19 => ?_)
    · have d_19 := c_19
      simp only [kt_lt, kt_le, kt_eq, kt_c0, kt_c1, kt_c2, kt_c3, kt_c4, kt_c8, kt_c9, kt_cm1, kt_c81, kt_c40, kt_c7, kt_c5, kt_c6, kt_c512, kt_c10, kt_c10000] at d_19
      refine lv_iconst (v := 0) hx hb dX11_best_26 (by decide) ?_
      exact j_27 (0 : Int32) (by trivial) H _ hP hD hS ls (lv_sub hl [0, 1] rfl)
    · have d_19 := c_19
      simp only [kt_lt, kt_le, kt_eq, kt_c0, kt_c1, kt_c2, kt_c3, kt_c4, kt_c8, kt_c9, kt_cm1, kt_c81, kt_c40, kt_c7, kt_c5, kt_c6, kt_c512, kt_c10, kt_c10000] at d_19
      refine lv_iconst (v := 1) hx hb dX11_best_22 (by decide) ?_
      refine lv_goto (tgt := 27) hx hb dX11_best_23 (by decide) ?_
      exact j_27 (1 : Int32) (by trivial) H _ hP hD hS ls (lv_sub hl [0, 1] rfl)
  · have d_4 := c_4
    simp only [kt_lt, kt_le, kt_eq, kt_c0, kt_c1, kt_c2, kt_c3, kt_c4, kt_c8, kt_c9, kt_cm1, kt_c81, kt_c40, kt_c7, kt_c5, kt_c6, kt_c512, kt_c10, kt_c10000] at d_4
    refine lv_iconst (v := (-1)) hx hb dX11_best_7 (by decide) ?_
    exact kt_ri (mtk, msd, fa, fo, ft) hx hb hr hlk hS dX11_best_8 hP hD (by show ¬ mho.toInt = 0 → kt_PI ml mw mpc msd mki mdn mun mkt mhd fr fk fa fo mv gs_ P_ ∧ kt_cut P_ fa = kt_cut P_ fa ∧ msd = msd ∧ kt_PD ml mw msd mki mdn mun mkt mhd mho mtk mgl mre mag fr fk mv gs_ ft P_; first | exact fun h => ⟨hpi h, rfl, rfl, hpd h⟩ | exact fun _ => ⟨hpi3, hct3, hms3, hpd3⟩)
