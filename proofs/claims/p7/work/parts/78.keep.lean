set_option maxHeartbeats 4000000 in
set_option maxRecDepth 100000 in
theorem c_X11_solveX (l : Launch) (D : va_G) (cI cZ cB : ClassId) (sz : Nat) (mx : Nat) (ms : Nat) (mk : Nat) (ma : Nat) (mo : Nat) (mg : Nat) (mm : Nat) (mt : Nat) (mn : Nat) (me : Nat) (mq : Nat) (mwo : Nat) (md : Nat) (mf : Nat) (mr : Nat) (ml : Int32) (mw : Int32) (mgl : Int32) (mhd : Int32) (mre : Int32) (mag : Int32) (mkt : Int32) (mho : Int32) (mpc : Int32) (msd : Int32) (mki : Int32) (mdn : Int32) (mun : Int32) (mtk : Int32) (msv : Int32) (P_ : Nat) (fa : Nat → Int32) (fo : Nat → Int32) (fr : Nat → Int32) (fk : Nat → Int32) (ft : Nat → Int32) (gs_ : Nat → Int32) (mv : Nat → Int32) (gw : Nat → Int32) (gd : Nat → Int32) (gf : Nat → Int32) (hml_ : 2 ≤ ml.toInt ∧ ml.toInt ≤ 9) (hmw : 2 ≤ mw.toInt ∧ mw.toInt ≤ 9) (hpi : ¬ mho.toInt = 0 → kt_PI ml mw mpc msd mki mdn mun mkt mhd fr fk fa fo mv gs_ P_) (hho : 0 ≤ mho.toInt ∧ mho.toInt ≤ 4) (hbd : mdn.toInt + mun.toInt ≤ 3900) (hsv : ¬ msv.toInt = 0 → ¬ mho.toInt = 0 ∧ 2 * kt_pw (ml.toInt * mw.toInt + 1) P_ ≤ 10000) (hpd : ¬ mho.toInt = 0 → kt_PD ml mw msd mki mdn mun mkt mhd mho mtk mgl mre mag fr fk mv gs_ ft P_) : kt_Mi l yX11_solve wsX11_solve { frames := 5, cells := 0, slots := 0, locals := 120 } D (kt_ty cI cZ cB) [.ref mx] sz [(mx, .inr (11, [.int ml, .int mw, .ref ms, .int mgl, .int mhd, .int mre, .int mag, .int mkt, .int mho, .int mpc, .int msd, .int mki, .ref mk, .ref ma, .ref mo, .ref mg, .ref mm, .ref mt, .int mdn, .int mun, .ref mn, .int mtk, .ref me, .ref mq, .int msv, .ref mwo, .ref md, .ref mf, .ref mr])), (ma, .inl (cI, 40, .inl fa)), (mo, .inl (cI, 81, .inl fo)), (mg, .inl (cI, 81, .inl fr)), (mk, .inl (cI, 40, .inl fk)), (mn, .inl (cZ, 40, .inl ft)), (mt, .inl (cB, 172241, .inl gs_)), (mwo, .inl (cI, 10000, .inl gw)), (md, .inl (cI, 10000, .inl gd)), (mr, .inl (cI, 10000, .inl gf))] (fun (r : Int32) (u : Int32 × Int32 × Int32 × (Nat → Int32) × (Nat → Int32) × (Nat → Int32) × (Nat → Int32) × (Nat → Int32) × (Nat → Int32)) => (¬ mho.toInt = 0 → kt_PI ml mw mpc u.2.1 mki mdn mun mkt mhd fr fk u.2.2.2.1 u.2.2.2.2.1 mv gs_ P_ ∧ kt_cut P_ u.2.2.2.1 = kt_cut P_ fa ∧ u.2.1 = msd ∧ kt_PD ml mw u.2.1 mki mdn mun mkt mhd mho u.1 mgl mre mag fr fk mv gs_ u.2.2.2.2.2.1 P_) ∧ (¬ u.2.2.1.toInt = 0 → ¬ mho.toInt = 0 ∧ 2 * kt_pw (ml.toInt * mw.toInt + 1) P_ ≤ 10000)) (fun (u : Int32 × Int32 × Int32 × (Nat → Int32) × (Nat → Int32) × (Nat → Int32) × (Nat → Int32) × (Nat → Int32) × (Nat → Int32)) => [(mx, .inr (11, [.int ml, .int mw, .ref ms, .int mgl, .int mhd, .int mre, .int mag, .int mkt, .int mho, .int mpc, .int u.2.1, .int mki, .ref mk, .ref ma, .ref mo, .ref mg, .ref mm, .ref mt, .int mdn, .int mun, .ref mn, .int u.1, .ref me, .ref mq, .int u.2.2.1, .ref mwo, .ref md, .ref mf, .ref mr])), (ma, .inl (cI, 40, .inl u.2.2.2.1)), (mo, .inl (cI, 81, .inl u.2.2.2.2.1)), (mg, .inl (cI, 81, .inl fr)), (mk, .inl (cI, 40, .inl fk)), (mn, .inl (cZ, 40, .inl u.2.2.2.2.2.1)), (mt, .inl (cB, 172241, .inl gs_)), (mwo, .inl (cI, 10000, .inl u.2.2.2.2.2.2.1)), (md, .inl (cI, 10000, .inl u.2.2.2.2.2.2.2.1)), (mr, .inl (cI, 10000, .inl u.2.2.2.2.2.2.2.2))]) 0 0 := by
  refine kt_Mi.of (cc := cX11_solve) (maxL := 6) (ret := some .int) (by decide) rfl (Nat.le_of_ble_eq_true rfl) ?_
  intro p e s m below meth c A ls H hAt hP hD hS hl
  obtain ⟨hx, hb, hr, hml, hown, hts, hN, hK, hlk, hnm, hA⟩ := hAt
  have hl : lv_has ls 6 [(0, .ref mx)] := hl
  have hown : s.vm.findClass RX11 = some m.cls := hown
  have hsb := kt_mulb hml_ hmw
  refine lv_aload_n hx hb dX11_solve_0 rfl (lv_at hl 0 rfl) ?_
  refine va_get (D := D) (ci := 11) (C := RX11) (T := TX11) (N := 29) hx hb hts iw_X11_solve_X11 hown hK hP 0 rfl rfl 8 (by decide) (hts (.fieldLink RX11 73 "KingTableModel" "how" "I") (kt_wp_X11_solve__X11_solve_r1 kt_wm0)) (fun _ h9 => h9) rfl dX11_solve_1 ?_
  refine lv_if_eq (tgt := 18) hx hb dX11_solve_4 (by decide) (fun c_4 => ?_) (fun c_4 => ?_)
  · have d_4 := c_4
    simp only [kt_lt, kt_le, kt_eq, kt_c0, kt_c1, kt_c2, kt_c3, kt_c4, kt_c8, kt_c9, kt_cm1, kt_c81, kt_c40, kt_c7, kt_c5, kt_c6, kt_c512, kt_c10, kt_c10000] at d_4
    refine lv_iconst (v := (-1)) hx hb dX11_solve_18 (by decide) ?_
    exact kt_ri (mtk, msd, msv, fa, fo, ft, gw, gd, gf) hx hb hr hlk hS dX11_solve_19 hP hD (by show (¬ mho.toInt = 0 → kt_PI ml mw mpc msd mki mdn mun mkt mhd fr fk fa fo mv gs_ P_ ∧ kt_cut P_ fa = kt_cut P_ fa ∧ msd = msd ∧ kt_PD ml mw msd mki mdn mun mkt mhd mho mtk mgl mre mag fr fk mv gs_ ft P_) ∧ (¬ msv.toInt = 0 → ¬ mho.toInt = 0 ∧ 2 * kt_pw (ml.toInt * mw.toInt + 1) P_ ≤ 10000); first | exact ⟨fun h => ⟨hpi h, rfl, rfl, hpd h⟩, hsv⟩ | exact ⟨fun _ => ⟨hpi3, hct3, hms3, hpd3⟩, fun _ => ⟨by omega, hst_⟩⟩)
  · have d_4 := c_4
    simp only [kt_lt, kt_le, kt_eq, kt_c0, kt_c1, kt_c2, kt_c3, kt_c4, kt_c8, kt_c9, kt_cm1, kt_c81, kt_c40, kt_c7, kt_c5, kt_c6, kt_c512, kt_c10, kt_c10000] at d_4
    have hpl := hpi (by omega)
    have hpl0 := hpl
    have hpd0 := hpd (by omega)
    obtain ⟨⟨hpc, hki, hsd, hdn0, hun0⟩, ⟨hfa, hco, hcc⟩, hinj, hrows, hcut, hlgl⟩ := hpl
    refine lv_aload_n hx hb dX11_solve_7 rfl (lv_at hl 0 rfl) ?_
    refine kt_pl (wc := [(mx, .inr (11, [.int ml, .int mw, .ref ms, .int mgl, .int mhd, .int mre, .int mag, .int mkt, .int mho, .int mpc, .int msd, .int mki, .ref mk, .ref ma, .ref mo, .ref mg, .ref mm, .ref mt, .int mdn, .int mun, .ref mn, .int mtk, .ref me, .ref mq, .int msv, .ref mwo, .ref md, .ref mf, .ref mr]))]) [0] hP hD hS hA rfl (by decide) (fun hPc hDc => va_runV (As := []) (rest := []) ⟨hx, hb, hml, hown, hts⟩ (c_X11_stands l D cI cZ cB H.size mx ms mk ma mo mg mm mt mn me mq mwo md mf mr ml mw mgl mhd mre mag mkt mho mpc msd mki mdn mun mtk msv P_ hml_ hmw hpc) (cwV 0 hts gX11_solve_X11_stands rfl rfl rfl (by decide +kernel) ⟨Nat.le_of_ble_eq_true rfl, Nat.le_of_ble_eq_true rfl⟩) (kt_preV hN hK hPc hDc 0 (ci := 11) (q := (RX11, TX11, 29)) rfl rfl) rfl rfl hl.1 rfl (lv_room (Nat.le_of_ble_eq_true rfl)) dX11_solve_8 ⟨Nat.le_of_ble_eq_true rfl, Nat.le_of_ble_eq_true rfl⟩) (fun r_8 _ H locs hw_8 hP hS => ?_)
    refine lv_ldc2 (v := 10000) hx hb hown (hts (.constantLong RX11 182 (10000)) (kt_wp_X11_solve__X11_solve_r1 kt_wm1)) dX11_solve_11 ?_
    refine lv_topl (fun t_11 et_11 => ?_)
    have hk_11 : t_11.toInt = 10000 := by rw [et_11]; decide
    refine W.lcmp hx hb dX11_solve_14 ?_
    refine lv_topi (fun t_14 et_14 => ?_)
    have hk_14 := kt_lcmp et_14
    refine lv_if_le (tgt := 20) hx hb dX11_solve_15 (by decide) (fun c_15 => ?_) (fun c_15 => ?_)
    · have d_15 := c_15
      simp only [kt_lt, kt_le, kt_eq, kt_c0, kt_c1, kt_c2, kt_c3, kt_c4, kt_c8, kt_c9, kt_cm1, kt_c81, kt_c40, kt_c7, kt_c5, kt_c6, kt_c512, kt_c10, kt_c10000] at d_15
      have hst_ : 2 * kt_pw (ml.toInt * mw.toInt + 1) P_ ≤ 10000 := by omega
      refine lv_aload_n hx hb dX11_solve_20 rfl (lv_at hl 0 rfl) ?_
      refine kt_pl (wc := [(mx, .inr (11, [.int ml, .int mw, .ref ms, .int mgl, .int mhd, .int mre, .int mag, .int mkt, .int mho, .int mpc, .int msd, .int mki, .ref mk, .ref ma, .ref mo, .ref mg, .ref mm, .ref mt, .int mdn, .int mun, .ref mn, .int mtk, .ref me, .ref mq, .int msv, .ref mwo, .ref md, .ref mf, .ref mr]))]) [0] hP hD hS hA rfl (by decide) (fun hPc hDc => va_runV (As := []) (rest := []) ⟨hx, hb, hml, hown, hts⟩ (c_X11_stands l D cI cZ cB H.size mx ms mk ma mo mg mm mt mn me mq mwo md mf mr ml mw mgl mhd mre mag mkt mho mpc msd mki mdn mun mtk msv P_ hml_ hmw hpc) (cwV 0 hts gX11_solve_X11_stands rfl rfl rfl (by decide +kernel) ⟨Nat.le_of_ble_eq_true rfl, Nat.le_of_ble_eq_true rfl⟩) (kt_preV hN hK hPc hDc 0 (ci := 11) (q := (RX11, TX11, 29)) rfl rfl) rfl rfl hl.1 rfl (lv_room (Nat.le_of_ble_eq_true rfl)) dX11_solve_21 ⟨Nat.le_of_ble_eq_true rfl, Nat.le_of_ble_eq_true rfl⟩) (fun r_21 _ H locs hw_21 hP hS => ?_)
      have hst21 := hw_21
      refine lv_l2i hx hb dX11_solve_24 rfl ?_
      refine lv_topi (fun t_24 et_24 => ?_)
      have hk_24 := kt_l2i et_24 (by omega) (by omega)
      have h24 : t_24.toInt = 2 * kt_pw (ml.toInt * mw.toInt + 1) P_ := by omega
      have hal0 : 0 ≤ t_24.toInt ∧ t_24.toInt ≤ 10000 := by omega
      refine lv_istore_n (lv' := [(1, .int t_24), (0, .ref mx)]) hx hb dX11_solve_25 rfl hl (by decide) rfl (fun ls hl => ?_)
      refine lv_iconst (v := 0) hx hb dX11_solve_26 (by decide) ?_
      refine lv_istore_n (lv' := [(2, .int 0), (1, .int t_24), (0, .ref mx)]) hx hb dX11_solve_27 rfl hl (by decide) rfl (fun ls hl => ?_)
      refine lv_iconst (v := 0) hx hb dX11_solve_28 (by decide) ?_
      refine lv_istore_n (lv' := [(3, .int 0), (2, .int 0), (1, .int t_24), (0, .ref mx)]) hx hb dX11_solve_29 rfl hl (by decide) rfl (fun ls hl => ?_)
      refine kt_loop (σ := Int32 × Int32 × (Nat → Int32) × (Nat → Int32) × (Nat → Int32) × Int32 × Int32 × (Nat → Int32) × (Nat → Int32)) 30 6 (fun u => [(mx, .inr (11, [.int ml, .int mw, .ref ms, .int mgl, .int mhd, .int mre, .int mag, .int mkt, .int mho, .int mpc, .int u.2.2.2.2.2.2.1, .int mki, .ref mk, .ref ma, .ref mo, .ref mg, .ref mm, .ref mt, .int mdn, .int mun, .ref mn, .int u.2.2.2.2.2.1, .ref me, .ref mq, .int msv, .ref mwo, .ref md, .ref mf, .ref mr])), (ma, .inl (cI, 40, .inl u.2.2.1)), (mo, .inl (cI, 81, .inl u.2.2.2.1)), (mg, .inl (cI, 81, .inl fr)), (mk, .inl (cI, 40, .inl fk)), (mn, .inl (cZ, 40, .inl u.2.2.2.2.1)), (mt, .inl (cB, 172241, .inl gs_)), (mwo, .inl (cI, 10000, .inl u.2.2.2.2.2.2.2.1)), (md, .inl (cI, 10000, .inl u.2.2.2.2.2.2.2.2)), (mr, .inl (cI, 10000, .inl gf))]) (fun u => [(3, .int u.1), (2, .int u.2.1), (1, .int t_24), (0, .ref mx)]) (fun n u => (0 ≤ u.1.toInt ∧ u.1.toInt ≤ t_24.toInt ∧ t_24.toInt < u.1.toInt + n) ∧ kt_r u.2.2.1 P_ (-1) (ml.toInt * mw.toInt - 1) ∧ kt_con u.2.2.2.1 u.2.2.1 P_ ∧ (0 ≤ u.2.2.2.2.2.2.1.toInt ∧ u.2.2.2.2.2.2.1.toInt ≤ 1)) (fun u h => by omega) (fun n_30 ih_30 u hI H locs hP hD hS ls hl => ?_) (t_24.toInt.toNat + 1) ((0 : Int32), (0 : Int32), fa, fo, ft, mtk, msd, gw, gd) (by show (0 ≤ (0 : Int32).toInt ∧ (0 : Int32).toInt ≤ t_24.toInt ∧ t_24.toInt < (0 : Int32).toInt + (t_24.toInt.toNat + 1)) ∧ kt_r fa P_ (-1) (ml.toInt * mw.toInt - 1) ∧ kt_con fo fa P_ ∧ (0 ≤ msd.toInt ∧ msd.toInt ≤ 1); exact ⟨⟨by decide, by rw [kt_c0]; omega, by rw [kt_c0]; omega⟩, hfa, hco, hsd⟩) hP hD hS (lv_sub hl [0, 1, 2, 3] rfl)
      obtain ⟨s_, cn, a1, a2, a3, atk, asd, aw, ad⟩ := u
      have hP : va_P D vwCl [(mx, .inr (11, [.int ml, .int mw, .ref ms, .int mgl, .int mhd, .int mre, .int mag, .int mkt, .int mho, .int mpc, .int asd, .int mki, .ref mk, .ref ma, .ref mo, .ref mg, .ref mm, .ref mt, .int mdn, .int mun, .ref mn, .int atk, .ref me, .ref mq, .int msv, .ref mwo, .ref md, .ref mf, .ref mr])), (ma, .inl (cI, 40, .inl a1)), (mo, .inl (cI, 81, .inl a2)), (mg, .inl (cI, 81, .inl fr)), (mk, .inl (cI, 40, .inl fk)), (mn, .inl (cZ, 40, .inl a3)), (mt, .inl (cB, 172241, .inl gs_)), (mwo, .inl (cI, 10000, .inl aw)), (md, .inl (cI, 10000, .inl ad)), (mr, .inl (cI, 10000, .inl gf))] H := hP
      have hD : va_D A [(mx, .inr (11, [.int ml, .int mw, .ref ms, .int mgl, .int mhd, .int mre, .int mag, .int mkt, .int mho, .int mpc, .int asd, .int mki, .ref mk, .ref ma, .ref mo, .ref mg, .ref mm, .ref mt, .int mdn, .int mun, .ref mn, .int atk, .ref me, .ref mq, .int msv, .ref mwo, .ref md, .ref mf, .ref mr])), (ma, .inl (cI, 40, .inl a1)), (mo, .inl (cI, 81, .inl a2)), (mg, .inl (cI, 81, .inl fr)), (mk, .inl (cI, 40, .inl fk)), (mn, .inl (cZ, 40, .inl a3)), (mt, .inl (cB, 172241, .inl gs_)), (mwo, .inl (cI, 10000, .inl aw)), (md, .inl (cI, 10000, .inl ad)), (mr, .inl (cI, 10000, .inl gf))] := hD
      have hl : lv_has ls 6 [(3, .int s_), (2, .int cn), (1, .int t_24), (0, .ref mx)] := hl
      have hI : (0 ≤ s_.toInt ∧ s_.toInt ≤ t_24.toInt ∧ t_24.toInt < s_.toInt + (n_30 + 1)) ∧ kt_r a1 P_ (-1) (ml.toInt * mw.toInt - 1) ∧ kt_con a2 a1 P_ ∧ (0 ≤ asd.toInt ∧ asd.toInt ≤ 1) := hI
      obtain ⟨hsb, hfa, hco, hsd⟩ := hI
      refine lv_iload_n hx hb dX11_solve_30 rfl (lv_at hl 0 rfl) ?_
      refine lv_iload_n hx hb dX11_solve_31 rfl (lv_at hl 2 rfl) ?_
      refine lv_icmp_ge (tgt := 82) hx hb dX11_solve_32 (by decide) (fun c_32 => ?_) (fun c_32 => ?_)
      · have d_32 := c_32
        simp only [kt_lt, kt_le, kt_eq, kt_c0, kt_c1, kt_c2, kt_c3, kt_c4, kt_c8, kt_c9, kt_cm1, kt_c81, kt_c40, kt_c7, kt_c5, kt_c6, kt_c512, kt_c10, kt_c10000] at d_32
        refine lv_iconst (v := 1) hx hb dX11_solve_82 (by decide) ?_
        refine lv_istore_n (lv' := [(3, .int 1), (2, .int cn), (1, .int t_24), (0, .ref mx)]) hx hb dX11_solve_83 rfl hl (by decide) rfl (fun ls hl => ?_)
        refine lv_iconst (v := 1) hx hb dX11_solve_84 (by decide) ?_
        refine lv_istore (lv' := [(4, .int 1), (3, .int 1), (2, .int cn), (1, .int t_24), (0, .ref mx)]) hx hb dX11_solve_85 hl (by decide) rfl (fun ls hl => ?_)
        refine kt_loop (σ := Int32 × Int32 × (Nat → Int32) × (Nat → Int32) × (Nat → Int32) × Int32 × Int32 × (Nat → Int32) × (Nat → Int32) × (Nat → Int32)) 87 6 (fun u => [(mx, .inr (11, [.int ml, .int mw, .ref ms, .int mgl, .int mhd, .int mre, .int mag, .int mkt, .int mho, .int mpc, .int u.2.2.2.2.2.2.1, .int mki, .ref mk, .ref ma, .ref mo, .ref mg, .ref mm, .ref mt, .int mdn, .int mun, .ref mn, .int u.2.2.2.2.2.1, .ref me, .ref mq, .int msv, .ref mwo, .ref md, .ref mf, .ref mr])), (ma, .inl (cI, 40, .inl u.2.2.1)), (mo, .inl (cI, 81, .inl u.2.2.2.1)), (mg, .inl (cI, 81, .inl fr)), (mk, .inl (cI, 40, .inl fk)), (mn, .inl (cZ, 40, .inl u.2.2.2.2.1)), (mt, .inl (cB, 172241, .inl gs_)), (mwo, .inl (cI, 10000, .inl u.2.2.2.2.2.2.2.1)), (md, .inl (cI, 10000, .inl u.2.2.2.2.2.2.2.2.1)), (mr, .inl (cI, 10000, .inl u.2.2.2.2.2.2.2.2.2))]) (fun u => [(4, .int u.2.1), (3, .int u.1), (2, .int cn), (1, .int t_24), (0, .ref mx)]) (fun n u => (1 ≤ n ∧ (¬ u.1 = 0 → kt_ct kt_is3 u.2.2.2.2.2.2.2.1 t_24.toInt.toNat + 2 ≤ n)) ∧ kt_r u.2.2.1 P_ (-1) (ml.toInt * mw.toInt - 1) ∧ kt_con u.2.2.2.1 u.2.2.1 P_ ∧ (0 ≤ u.2.2.2.2.2.2.1.toInt ∧ u.2.2.2.2.2.2.1.toInt ≤ 1)) (fun u h => by omega) (fun n_87 ih_87 u hI H locs hP hD hS ls hl => ?_) (kt_ct kt_is3 aw t_24.toInt.toNat + 2) ((1 : Int32), (1 : Int32), a1, a2, a3, atk, asd, aw, ad, gf) (by show (1 ≤ (kt_ct kt_is3 aw t_24.toInt.toNat + 2) ∧ (¬ (1 : Int32) = 0 → kt_ct kt_is3 aw t_24.toInt.toNat + 2 ≤ (kt_ct kt_is3 aw t_24.toInt.toNat + 2))) ∧ kt_r a1 P_ (-1) (ml.toInt * mw.toInt - 1) ∧ kt_con a2 a1 P_ ∧ (0 ≤ asd.toInt ∧ asd.toInt ≤ 1); exact ⟨⟨by omega, fun _ => Nat.le_refl _⟩, hfa, hco, hsd⟩) hP hD hS (lv_sub hl [0, 1, 2, 3, 4] rfl)
        obtain ⟨mo_, dp, b1, b2, b3, btk, bsd, bw, bd, bf⟩ := u
        have hP : va_P D vwCl [(mx, .inr (11, [.int ml, .int mw, .ref ms, .int mgl, .int mhd, .int mre, .int mag, .int mkt, .int mho, .int mpc, .int bsd, .int mki, .ref mk, .ref ma, .ref mo, .ref mg, .ref mm, .ref mt, .int mdn, .int mun, .ref mn, .int btk, .ref me, .ref mq, .int msv, .ref mwo, .ref md, .ref mf, .ref mr])), (ma, .inl (cI, 40, .inl b1)), (mo, .inl (cI, 81, .inl b2)), (mg, .inl (cI, 81, .inl fr)), (mk, .inl (cI, 40, .inl fk)), (mn, .inl (cZ, 40, .inl b3)), (mt, .inl (cB, 172241, .inl gs_)), (mwo, .inl (cI, 10000, .inl bw)), (md, .inl (cI, 10000, .inl bd)), (mr, .inl (cI, 10000, .inl bf))] H := hP
        have hD : va_D A [(mx, .inr (11, [.int ml, .int mw, .ref ms, .int mgl, .int mhd, .int mre, .int mag, .int mkt, .int mho, .int mpc, .int bsd, .int mki, .ref mk, .ref ma, .ref mo, .ref mg, .ref mm, .ref mt, .int mdn, .int mun, .ref mn, .int btk, .ref me, .ref mq, .int msv, .ref mwo, .ref md, .ref mf, .ref mr])), (ma, .inl (cI, 40, .inl b1)), (mo, .inl (cI, 81, .inl b2)), (mg, .inl (cI, 81, .inl fr)), (mk, .inl (cI, 40, .inl fk)), (mn, .inl (cZ, 40, .inl b3)), (mt, .inl (cB, 172241, .inl gs_)), (mwo, .inl (cI, 10000, .inl bw)), (md, .inl (cI, 10000, .inl bd)), (mr, .inl (cI, 10000, .inl bf))] := hD
        have hl : lv_has ls 6 [(4, .int dp), (3, .int mo_), (2, .int cn), (1, .int t_24), (0, .ref mx)] := hl
        have hI : (1 ≤ (n_87 + 1) ∧ (¬ mo_ = 0 → kt_ct kt_is3 bw t_24.toInt.toNat + 2 ≤ (n_87 + 1))) ∧ kt_r b1 P_ (-1) (ml.toInt * mw.toInt - 1) ∧ kt_con b2 b1 P_ ∧ (0 ≤ bsd.toInt ∧ bsd.toInt ≤ 1) := hI
        obtain ⟨hfu, hfa, hco, hsd⟩ := hI
        refine lv_iload_n hx hb dX11_solve_87 rfl (lv_at hl 1 rfl) ?_
        refine lv_if_eq (tgt := 196) hx hb dX11_solve_88 (by decide) (fun c_88 => ?_) (fun c_88 => ?_)
        · have d_88 := c_88
          simp only [kt_lt, kt_le, kt_eq, kt_c0, kt_c1, kt_c2, kt_c3, kt_c4, kt_c8, kt_c9, kt_cm1, kt_c81, kt_c40, kt_c7, kt_c5, kt_c6, kt_c512, kt_c10, kt_c10000] at d_88
          refine lv_iconst (v := 0) hx hb dX11_solve_196 (by decide) ?_
          refine lv_istore (lv' := [(4, .int 0), (3, .int mo_), (2, .int cn), (1, .int t_24), (0, .ref mx)]) hx hb dX11_solve_197 hl (by decide) rfl (fun ls hl => ?_)
          refine kt_loop (σ := Int32 × (Nat → Int32)) 199 6 (fun u => [(mx, .inr (11, [.int ml, .int mw, .ref ms, .int mgl, .int mhd, .int mre, .int mag, .int mkt, .int mho, .int mpc, .int bsd, .int mki, .ref mk, .ref ma, .ref mo, .ref mg, .ref mm, .ref mt, .int mdn, .int mun, .ref mn, .int btk, .ref me, .ref mq, .int msv, .ref mwo, .ref md, .ref mf, .ref mr])), (ma, .inl (cI, 40, .inl b1)), (mo, .inl (cI, 81, .inl b2)), (mg, .inl (cI, 81, .inl fr)), (mk, .inl (cI, 40, .inl fk)), (mn, .inl (cZ, 40, .inl b3)), (mt, .inl (cB, 172241, .inl gs_)), (mwo, .inl (cI, 10000, .inl u.2)), (md, .inl (cI, 10000, .inl bd)), (mr, .inl (cI, 10000, .inl bf))]) (fun u => [(4, .int u.1), (2, .int cn), (1, .int t_24), (0, .ref mx)]) (fun n u => 0 ≤ u.1.toInt ∧ u.1.toInt ≤ t_24.toInt ∧ t_24.toInt < u.1.toInt + n) (fun u h => by omega) (fun n_199 ih_199 u hI H locs hP hD hS ls hl => ?_) (t_24.toInt.toNat + 1) ((0 : Int32), bw) (by show 0 ≤ (0 : Int32).toInt ∧ (0 : Int32).toInt ≤ t_24.toInt ∧ t_24.toInt < (0 : Int32).toInt + (t_24.toInt.toNat + 1); exact ⟨by decide, by rw [kt_c0]; omega, by rw [kt_c0]; omega⟩) hP hD hS (lv_sub hl [0, 2, 3, 4] rfl)
          obtain ⟨s4, ew⟩ := u
          have hP : va_P D vwCl [(mx, .inr (11, [.int ml, .int mw, .ref ms, .int mgl, .int mhd, .int mre, .int mag, .int mkt, .int mho, .int mpc, .int bsd, .int mki, .ref mk, .ref ma, .ref mo, .ref mg, .ref mm, .ref mt, .int mdn, .int mun, .ref mn, .int btk, .ref me, .ref mq, .int msv, .ref mwo, .ref md, .ref mf, .ref mr])), (ma, .inl (cI, 40, .inl b1)), (mo, .inl (cI, 81, .inl b2)), (mg, .inl (cI, 81, .inl fr)), (mk, .inl (cI, 40, .inl fk)), (mn, .inl (cZ, 40, .inl b3)), (mt, .inl (cB, 172241, .inl gs_)), (mwo, .inl (cI, 10000, .inl ew)), (md, .inl (cI, 10000, .inl bd)), (mr, .inl (cI, 10000, .inl bf))] H := hP
          have hD : va_D A [(mx, .inr (11, [.int ml, .int mw, .ref ms, .int mgl, .int mhd, .int mre, .int mag, .int mkt, .int mho, .int mpc, .int bsd, .int mki, .ref mk, .ref ma, .ref mo, .ref mg, .ref mm, .ref mt, .int mdn, .int mun, .ref mn, .int btk, .ref me, .ref mq, .int msv, .ref mwo, .ref md, .ref mf, .ref mr])), (ma, .inl (cI, 40, .inl b1)), (mo, .inl (cI, 81, .inl b2)), (mg, .inl (cI, 81, .inl fr)), (mk, .inl (cI, 40, .inl fk)), (mn, .inl (cZ, 40, .inl b3)), (mt, .inl (cB, 172241, .inl gs_)), (mwo, .inl (cI, 10000, .inl ew)), (md, .inl (cI, 10000, .inl bd)), (mr, .inl (cI, 10000, .inl bf))] := hD
          have hl : lv_has ls 6 [(4, .int s4), (2, .int cn), (1, .int t_24), (0, .ref mx)] := hl
          have hI : 0 ≤ s4.toInt ∧ s4.toInt ≤ t_24.toInt ∧ t_24.toInt < s4.toInt + (n_199 + 1) := hI
          refine lv_iload hx hb dX11_solve_199 (lv_at hl 0 rfl) ?_
          refine lv_iload_n hx hb dX11_solve_201 rfl (lv_at hl 2 rfl) ?_
          refine lv_icmp_ge (tgt := 230) hx hb dX11_solve_202 (by decide) (fun c_202 => ?_) (fun c_202 => ?_)
          · have d_202 := c_202
            simp only [kt_lt, kt_le, kt_eq, kt_c0, kt_c1, kt_c2, kt_c3, kt_c4, kt_c8, kt_c9, kt_cm1, kt_c81, kt_c40, kt_c7, kt_c5, kt_c6, kt_c512, kt_c10, kt_c10000] at d_202
            refine lv_aload_n hx hb dX11_solve_230 rfl (lv_at hl 3 rfl) ?_
            have hrj := hpl0.inj (n := mdn.toInt.toNat) (by omega)
            have hrd := (hrows mdn.toInt.toNat (by omega)).1
            refine lv_aload_n hx hb dX11_solve_231 rfl (lv_at hl 3 rfl) ?_
            refine va_get (D := D) (ci := 11) (C := RX11) (T := TX11) (N := 29) hx hb hts iw_X11_solve_X11 hown hK hP 0 rfl rfl 18 (by decide) (hts (.fieldLink RX11 138 "KingTableModel" "done" "I") (kt_wp_X11_solve__X11_solve_r1 kt_wm5)) (fun _ h9 => h9) rfl dX11_solve_232 ?_
            refine kt_bv (wc := [(mx, .inr (11, [.int ml, .int mw, .ref ms, .int mgl, .int mhd, .int mre, .int mag, .int mkt, .int mho, .int mpc, .int bsd, .int mki, .ref mk, .ref ma, .ref mo, .ref mg, .ref mm, .ref mt, .int mdn, .int mun, .ref mn, .int btk, .ref me, .ref mq, .int msv, .ref mwo, .ref md, .ref mf, .ref mr])), (ma, .inl (cI, 40, .inl b1)), (mo, .inl (cI, 81, .inl b2)), (mt, .inl (cB, 172241, .inl gs_))]) (wr := [(mg, .inl (cI, 81, .inl fr)), (mk, .inl (cI, 40, .inl fk)), (mn, .inl (cZ, 40, .inl b3)), (mwo, .inl (cI, 10000, .inl ew)), (md, .inl (cI, 10000, .inl bd)), (mr, .inl (cI, 10000, .inl bf))]) [0, 1, 2, 6] [3, 4, 5, 7, 8, 9] hP hD hS hA rfl rfl (by decide) (by decide) (by decide) (fun hPc hDc => va_runV (As := [.int mdn]) (rest := []) ⟨hx, hb, hml, hown, hts⟩ (c_X11_readE l D cI cZ cB H.size mx ms mk ma mo mg mm mt mn me mq mwo md mf mr ml mw mgl mhd mre mag mkt mho mpc bsd mki mdn mun btk msv P_ b1 b2 gs_ mdn hml_ hmw hpc (by omega) hrd hrj) (cwV 1 hts gX11_solve_X11_read rfl rfl rfl (by decide +kernel) ⟨Nat.le_of_ble_eq_true rfl, Nat.le_of_ble_eq_true rfl⟩) (kt_preV hN hK hPc hDc 0 (ci := 11) (q := (RX11, TX11, 29)) rfl rfl) rfl rfl hl.1 rfl (lv_room (Nat.le_of_ble_eq_true rfl)) dX11_solve_235 ⟨Nat.le_of_ble_eq_true rfl, Nat.le_of_ble_eq_true rfl⟩) (fun u_ H locs hw_235 hP hD hS => ?_)
            obtain ⟨fa2_235, fo2_235, msd2_235⟩ := u_
            have hP : va_P D vwCl [(mx, .inr (11, [.int ml, .int mw, .ref ms, .int mgl, .int mhd, .int mre, .int mag, .int mkt, .int mho, .int mpc, .int msd2_235, .int mki, .ref mk, .ref ma, .ref mo, .ref mg, .ref mm, .ref mt, .int mdn, .int mun, .ref mn, .int btk, .ref me, .ref mq, .int msv, .ref mwo, .ref md, .ref mf, .ref mr])), (ma, .inl (cI, 40, .inl fa2_235)), (mo, .inl (cI, 81, .inl fo2_235)), (mg, .inl (cI, 81, .inl fr)), (mk, .inl (cI, 40, .inl fk)), (mn, .inl (cZ, 40, .inl b3)), (mt, .inl (cB, 172241, .inl gs_)), (mwo, .inl (cI, 10000, .inl ew)), (md, .inl (cI, 10000, .inl bd)), (mr, .inl (cI, 10000, .inl bf))] H := hP.sub [6, 7, 8, 0, 1, 2, 9, 3, 4, 5] rfl
            have hD : va_D A [(mx, .inr (11, [.int ml, .int mw, .ref ms, .int mgl, .int mhd, .int mre, .int mag, .int mkt, .int mho, .int mpc, .int msd2_235, .int mki, .ref mk, .ref ma, .ref mo, .ref mg, .ref mm, .ref mt, .int mdn, .int mun, .ref mn, .int btk, .ref me, .ref mq, .int msv, .ref mwo, .ref md, .ref mf, .ref mr])), (ma, .inl (cI, 40, .inl fa2_235)), (mo, .inl (cI, 81, .inl fo2_235)), (mg, .inl (cI, 81, .inl fr)), (mk, .inl (cI, 40, .inl fk)), (mn, .inl (cZ, 40, .inl b3)), (mt, .inl (cB, 172241, .inl gs_)), (mwo, .inl (cI, 10000, .inl ew)), (md, .inl (cI, 10000, .inl bd)), (mr, .inl (cI, 10000, .inl bf))] := hD.sub [6, 7, 8, 0, 1, 2, 9, 3, 4, 5] (by decide) rfl
            try dsimp only at hw_235
            obtain ⟨hfc3, hsd3, hrd3, hrs3⟩ := hw_235
            have hct3 : kt_cut P_ fa2_235 = kt_cut P_ fa := by
              rw [hcut, ← (hrows mdn.toInt.toNat (by omega)).2]
              exact kt_cut_eq (fun j hj => hrd3 j hj)
            have hpi3 := hpl0.rows (by omega) (fun _ _ => rfl) hsd3 hfc3 hct3
            refine lv_aload_n hx hb dX11_solve_238 rfl (lv_at hl 3 rfl) ?_
            refine kt_bv (wc := [(mx, .inr (11, [.int ml, .int mw, .ref ms, .int mgl, .int mhd, .int mre, .int mag, .int mkt, .int mho, .int mpc, .int msd2_235, .int mki, .ref mk, .ref ma, .ref mo, .ref mg, .ref mm, .ref mt, .int mdn, .int mun, .ref mn, .int btk, .ref me, .ref mq, .int msv, .ref mwo, .ref md, .ref mf, .ref mr])), (mt, .inl (cB, 172241, .inl gs_)), (mn, .inl (cZ, 40, .inl b3))]) (wr := [(ma, .inl (cI, 40, .inl fa2_235)), (mo, .inl (cI, 81, .inl fo2_235)), (mg, .inl (cI, 81, .inl fr)), (mk, .inl (cI, 40, .inl fk)), (mwo, .inl (cI, 10000, .inl ew)), (md, .inl (cI, 10000, .inl bd)), (mr, .inl (cI, 10000, .inl bf))]) [0, 6, 5] [1, 2, 3, 4, 7, 8, 9] hP hD hS hA rfl rfl (by decide) (by decide) (by decide) (fun hPc hDc => va_runV (As := []) (rest := []) ⟨hx, hb, hml, hown, hts⟩ (c_X11_lookAgainX l D cI cZ cB H.size mx ms mk ma mo mg mm mt mn me mq mwo md mf mr ml mw mgl mhd mre mag mkt mho mpc msd2_235 mki mdn mun btk msv P_ gs_ b3 hpc (by omega)) (cwV 0 hts gX11_solve_X11_lookAgain rfl rfl rfl (by decide +kernel) ⟨Nat.le_of_ble_eq_true rfl, Nat.le_of_ble_eq_true rfl⟩) (kt_preV hN hK hPc hDc 0 (ci := 11) (q := (RX11, TX11, 29)) rfl rfl) rfl rfl hl.1 rfl (lv_room (Nat.le_of_ble_eq_true rfl)) dX11_solve_239 ⟨Nat.le_of_ble_eq_true rfl, Nat.le_of_ble_eq_true rfl⟩) (fun u_ H locs hw_239 hP hD hS => ?_)
            obtain ⟨mtk2_239, ft2_239⟩ := u_
            have hP : va_P D vwCl [(mx, .inr (11, [.int ml, .int mw, .ref ms, .int mgl, .int mhd, .int mre, .int mag, .int mkt, .int mho, .int mpc, .int msd2_235, .int mki, .ref mk, .ref ma, .ref mo, .ref mg, .ref mm, .ref mt, .int mdn, .int mun, .ref mn, .int mtk2_239, .ref me, .ref mq, .int msv, .ref mwo, .ref md, .ref mf, .ref mr])), (ma, .inl (cI, 40, .inl fa2_235)), (mo, .inl (cI, 81, .inl fo2_235)), (mg, .inl (cI, 81, .inl fr)), (mk, .inl (cI, 40, .inl fk)), (mn, .inl (cZ, 40, .inl ft2_239)), (mt, .inl (cB, 172241, .inl gs_)), (mwo, .inl (cI, 10000, .inl ew)), (md, .inl (cI, 10000, .inl bd)), (mr, .inl (cI, 10000, .inl bf))] H := hP.sub [7, 0, 1, 2, 3, 9, 8, 4, 5, 6] rfl
            have hD : va_D A [(mx, .inr (11, [.int ml, .int mw, .ref ms, .int mgl, .int mhd, .int mre, .int mag, .int mkt, .int mho, .int mpc, .int msd2_235, .int mki, .ref mk, .ref ma, .ref mo, .ref mg, .ref mm, .ref mt, .int mdn, .int mun, .ref mn, .int mtk2_239, .ref me, .ref mq, .int msv, .ref mwo, .ref md, .ref mf, .ref mr])), (ma, .inl (cI, 40, .inl fa2_235)), (mo, .inl (cI, 81, .inl fo2_235)), (mg, .inl (cI, 81, .inl fr)), (mk, .inl (cI, 40, .inl fk)), (mn, .inl (cZ, 40, .inl ft2_239)), (mt, .inl (cB, 172241, .inl gs_)), (mwo, .inl (cI, 10000, .inl ew)), (md, .inl (cI, 10000, .inl bd)), (mr, .inl (cI, 10000, .inl bf))] := hD.sub [7, 0, 1, 2, 3, 9, 8, 4, 5, 6] (by decide) rfl
            try dsimp only at hw_239
            obtain ⟨hl0, hl1, hl2⟩ := hw_239
            have hpd3 := hpd0.rows hpc.2 hdn0 (fun _ _ => rfl) (fun n hn => (hrows n hn).2) hrs3 hl0 hl1 hl2
            have hms3 : msd2_235 = msd := (kt_eq _ _).mpr (hpd3.2.1.1.trans hpd0.2.1.1.symm)
            refine lv_aload_n hx hb dX11_solve_242 rfl (lv_at hl 3 rfl) ?_
            refine lv_iconst (v := 1) hx hb dX11_solve_243 (by decide) ?_
            refine va_put (D := D) (ci := 11) (v := .int 1) (ty := .boolean) (C := RX11) (T := TX11) (N := 29) hx hb hts iw_X11_solve_X11 tyX11 tyX11_ok nmX11 hown hK hP hD hS 0 rfl rfl 24 (by decide) (hts (.fieldLink RX11 76 "KingTableModel" "solved" "Z") (kt_wp_X11_solve__X11_solve_r1 kt_wm6)) (fun _ h9 => h9) rfl (by decide +kernel) rfl rfl (Nat.le_of_ble_eq_true rfl) dX11_solve_244 (fun H locs hP hD hS => ?_)
            have hP : va_P D vwCl [(mx, .inr (11, [.int ml, .int mw, .ref ms, .int mgl, .int mhd, .int mre, .int mag, .int mkt, .int mho, .int mpc, .int msd2_235, .int mki, .ref mk, .ref ma, .ref mo, .ref mg, .ref mm, .ref mt, .int mdn, .int mun, .ref mn, .int mtk2_239, .ref me, .ref mq, .int 1, .ref mwo, .ref md, .ref mf, .ref mr])), (ma, .inl (cI, 40, .inl fa2_235)), (mo, .inl (cI, 81, .inl fo2_235)), (mg, .inl (cI, 81, .inl fr)), (mk, .inl (cI, 40, .inl fk)), (mn, .inl (cZ, 40, .inl ft2_239)), (mt, .inl (cB, 172241, .inl gs_)), (mwo, .inl (cI, 10000, .inl ew)), (md, .inl (cI, 10000, .inl bd)), (mr, .inl (cI, 10000, .inl bf))] H := hP
            have hD : va_D A [(mx, .inr (11, [.int ml, .int mw, .ref ms, .int mgl, .int mhd, .int mre, .int mag, .int mkt, .int mho, .int mpc, .int msd2_235, .int mki, .ref mk, .ref ma, .ref mo, .ref mg, .ref mm, .ref mt, .int mdn, .int mun, .ref mn, .int mtk2_239, .ref me, .ref mq, .int 1, .ref mwo, .ref md, .ref mf, .ref mr])), (ma, .inl (cI, 40, .inl fa2_235)), (mo, .inl (cI, 81, .inl fo2_235)), (mg, .inl (cI, 81, .inl fr)), (mk, .inl (cI, 40, .inl fk)), (mn, .inl (cZ, 40, .inl ft2_239)), (mt, .inl (cB, 172241, .inl gs_)), (mwo, .inl (cI, 10000, .inl ew)), (md, .inl (cI, 10000, .inl bd)), (mr, .inl (cI, 10000, .inl bf))] := hD
            refine lv_iload_n hx hb dX11_solve_247 rfl (lv_at hl 1 rfl) ?_
            exact kt_ri (mtk2_239, msd2_235, 1, fa2_235, fo2_235, ft2_239, ew, bd, bf) hx hb hr hlk hS dX11_solve_248 hP hD (by show (¬ mho.toInt = 0 → kt_PI ml mw mpc msd2_235 mki mdn mun mkt mhd fr fk fa2_235 fo2_235 mv gs_ P_ ∧ kt_cut P_ fa2_235 = kt_cut P_ fa ∧ msd2_235 = msd ∧ kt_PD ml mw msd2_235 mki mdn mun mkt mhd mho mtk2_239 mgl mre mag fr fk mv gs_ ft2_239 P_) ∧ (¬ (1 : Int32).toInt = 0 → ¬ mho.toInt = 0 ∧ 2 * kt_pw (ml.toInt * mw.toInt + 1) P_ ≤ 10000); first | exact ⟨fun h => ⟨hpi h, rfl, rfl, hpd h⟩, hsv⟩ | exact ⟨fun _ => ⟨hpi3, hct3, hms3, hpd3⟩, fun _ => ⟨by omega, hst_⟩⟩)
          · have d_202 := c_202
            simp only [kt_lt, kt_le, kt_eq, kt_c0, kt_c1, kt_c2, kt_c3, kt_c4, kt_c8, kt_c9, kt_cm1, kt_c81, kt_c40, kt_c7, kt_c5, kt_c6, kt_c512, kt_c10, kt_c10000] at d_202
            refine lv_aload_n hx hb dX11_solve_205 rfl (lv_at hl 3 rfl) ?_
            refine va_get (D := D) (ci := 11) (C := RX11) (T := TX11) (N := 29) hx hb hts iw_X11_solve_X11 hown hK hP 0 rfl rfl 25 (by decide) (hts (.fieldLink RX11 57 "KingTableModel" "worths" "[I") (kt_wp_X11_solve__X11_solve_r1 kt_wm2)) (fun _ h9 => h9) rfl dX11_solve_206 ?_
            refine lv_iload hx hb dX11_solve_209 (lv_at hl 0 rfl) ?_
            have hi_1 : vp_in s4 10000 := by exact kt_in (by omega) (by omega)
            refine va_iald hx hb hK hP 7 0 rfl rfl hi_1 dX11_solve_211 ?_
            refine lv_topi (fun a_211 ea_211 => ?_)
            refine lv_iconst (v := 3) hx hb dX11_solve_212 (by decide) ?_
            refine lv_icmp_ne (tgt := 224) hx hb dX11_solve_213 (by decide) (fun c_213 => ?_) (fun c_213 => ?_)
            · have d_213 := c_213
              simp only [kt_lt, kt_le, kt_eq, kt_c0, kt_c1, kt_c2, kt_c3, kt_c4, kt_c8, kt_c9, kt_cm1, kt_c81, kt_c40, kt_c7, kt_c5, kt_c6, kt_c512, kt_c10, kt_c10000] at d_213
              obtain ⟨t_224, et_224⟩ : ∃ y : Int32, y = s4 + 1 := ⟨_, rfl⟩
              obtain ⟨k_224, hk_224, hm_224, hM_224⟩ := kt_addk et_224
              try simp only [kt_c0, kt_c1, kt_c2, kt_c3, kt_c4, kt_c8, kt_c9, kt_cm1, kt_c81, kt_c40, kt_c7, kt_c5, kt_c6, kt_c512, kt_c10, kt_c10000] at hk_224
              refine lv_iinc (v := t_224) (lv' := [(4, .int t_224), (2, .int cn), (1, .int t_24), (0, .ref mx)]) hx hb dX11_solve_224 hl (k := 0) rfl (by rw [et_224]; rfl) (by decide) rfl (fun ls hl => ?_)
              refine lv_goto (tgt := 199) hx hb dX11_solve_227 (by decide) ?_
              exact ih_199 (t_224, ew) (by show 0 ≤ t_224.toInt ∧ t_224.toInt ≤ t_24.toInt ∧ t_24.toInt < t_224.toInt + n_199; omega) H _ hP hD hS ls (lv_sub hl [0, 1, 2, 3] rfl)
            · have d_213 := c_213
              simp only [kt_lt, kt_le, kt_eq, kt_c0, kt_c1, kt_c2, kt_c3, kt_c4, kt_c8, kt_c9, kt_cm1, kt_c81, kt_c40, kt_c7, kt_c5, kt_c6, kt_c512, kt_c10, kt_c10000] at d_213
              refine lv_aload_n hx hb dX11_solve_216 rfl (lv_at hl 3 rfl) ?_
              refine va_get (D := D) (ci := 11) (C := RX11) (T := TX11) (N := 29) hx hb hts iw_X11_solve_X11 hown hK hP 0 rfl rfl 25 (by decide) (hts (.fieldLink RX11 57 "KingTableModel" "worths" "[I") (kt_wp_X11_solve__X11_solve_r1 kt_wm2)) (fun _ h9 => h9) rfl dX11_solve_217 ?_
              refine lv_iload hx hb dX11_solve_220 (lv_at hl 0 rfl) ?_
              refine lv_iconst (v := 2) hx hb dX11_solve_222 (by decide) ?_
              have hi_2 : vp_in s4 10000 := by exact kt_in (by omega) (by omega)
              refine va_iast hx hb hK hP hD hS 7 0 rfl rfl hi_2 dX11_solve_223 (fun H locs hP hD hS => ?_)
              have hP : va_P D vwCl [(mx, .inr (11, [.int ml, .int mw, .ref ms, .int mgl, .int mhd, .int mre, .int mag, .int mkt, .int mho, .int mpc, .int bsd, .int mki, .ref mk, .ref ma, .ref mo, .ref mg, .ref mm, .ref mt, .int mdn, .int mun, .ref mn, .int btk, .ref me, .ref mq, .int msv, .ref mwo, .ref md, .ref mf, .ref mr])), (ma, .inl (cI, 40, .inl b1)), (mo, .inl (cI, 81, .inl b2)), (mg, .inl (cI, 81, .inl fr)), (mk, .inl (cI, 40, .inl fk)), (mn, .inl (cZ, 40, .inl b3)), (mt, .inl (cB, 172241, .inl gs_)), (mwo, .inl (cI, 10000, .inl (upd ew s4.toNatClampNeg 2))), (md, .inl (cI, 10000, .inl bd)), (mr, .inl (cI, 10000, .inl bf))] H := hP
              have hD : va_D A [(mx, .inr (11, [.int ml, .int mw, .ref ms, .int mgl, .int mhd, .int mre, .int mag, .int mkt, .int mho, .int mpc, .int bsd, .int mki, .ref mk, .ref ma, .ref mo, .ref mg, .ref mm, .ref mt, .int mdn, .int mun, .ref mn, .int btk, .ref me, .ref mq, .int msv, .ref mwo, .ref md, .ref mf, .ref mr])), (ma, .inl (cI, 40, .inl b1)), (mo, .inl (cI, 81, .inl b2)), (mg, .inl (cI, 81, .inl fr)), (mk, .inl (cI, 40, .inl fk)), (mn, .inl (cZ, 40, .inl b3)), (mt, .inl (cB, 172241, .inl gs_)), (mwo, .inl (cI, 10000, .inl (upd ew s4.toNatClampNeg 2))), (md, .inl (cI, 10000, .inl bd)), (mr, .inl (cI, 10000, .inl bf))] := hD
              obtain ⟨t_224, et_224⟩ : ∃ y : Int32, y = s4 + 1 := ⟨_, rfl⟩
              obtain ⟨k_224, hk_224, hm_224, hM_224⟩ := kt_addk et_224
              try simp only [kt_c0, kt_c1, kt_c2, kt_c3, kt_c4, kt_c8, kt_c9, kt_cm1, kt_c81, kt_c40, kt_c7, kt_c5, kt_c6, kt_c512, kt_c10, kt_c10000] at hk_224
              refine lv_iinc (v := t_224) (lv' := [(4, .int t_224), (2, .int cn), (1, .int t_24), (0, .ref mx)]) hx hb dX11_solve_224 hl (k := 0) rfl (by rw [et_224]; rfl) (by decide) rfl (fun ls hl => ?_)
              refine lv_goto (tgt := 199) hx hb dX11_solve_227 (by decide) ?_
              exact ih_199 (t_224, (upd ew s4.toNatClampNeg 2)) (by show 0 ≤ t_224.toInt ∧ t_224.toInt ≤ t_24.toInt ∧ t_24.toInt < t_224.toInt + n_199; omega) H _ hP hD hS ls (lv_sub hl [0, 1, 2, 3] rfl)
        · have d_88 := c_88
          simp only [kt_lt, kt_le, kt_eq, kt_c0, kt_c1, kt_c2, kt_c3, kt_c4, kt_c8, kt_c9, kt_cm1, kt_c81, kt_c40, kt_c7, kt_c5, kt_c6, kt_c512, kt_c10, kt_c10000] at d_88
          refine lv_iconst (v := 0) hx hb dX11_solve_91 (by decide) ?_
          refine lv_istore_n (lv' := [(3, .int 0), (4, .int dp), (2, .int cn), (1, .int t_24), (0, .ref mx)]) hx hb dX11_solve_92 rfl hl (by decide) rfl (fun ls hl => ?_)
          refine lv_iconst (v := 0) hx hb dX11_solve_93 (by decide) ?_
          refine lv_istore (lv' := [(5, .int 0), (3, .int 0), (4, .int dp), (2, .int cn), (1, .int t_24), (0, .ref mx)]) hx hb dX11_solve_94 hl (by decide) rfl (fun ls hl => ?_)
          refine kt_loop (σ := Int32 × (Nat → Int32) × (Nat → Int32) × (Nat → Int32) × Int32 × Int32 × (Nat → Int32) × (Nat → Int32) × (Nat → Int32)) 96 6 (fun u => [(mx, .inr (11, [.int ml, .int mw, .ref ms, .int mgl, .int mhd, .int mre, .int mag, .int mkt, .int mho, .int mpc, .int u.2.2.2.2.2.1, .int mki, .ref mk, .ref ma, .ref mo, .ref mg, .ref mm, .ref mt, .int mdn, .int mun, .ref mn, .int u.2.2.2.2.1, .ref me, .ref mq, .int msv, .ref mwo, .ref md, .ref mf, .ref mr])), (ma, .inl (cI, 40, .inl u.2.1)), (mo, .inl (cI, 81, .inl u.2.2.1)), (mg, .inl (cI, 81, .inl fr)), (mk, .inl (cI, 40, .inl fk)), (mn, .inl (cZ, 40, .inl u.2.2.2.1)), (mt, .inl (cB, 172241, .inl gs_)), (mwo, .inl (cI, 10000, .inl u.2.2.2.2.2.2.1)), (md, .inl (cI, 10000, .inl u.2.2.2.2.2.2.2.1)), (mr, .inl (cI, 10000, .inl u.2.2.2.2.2.2.2.2))]) (fun u => [(5, .int u.1), (3, .int 0), (4, .int dp), (2, .int cn), (1, .int t_24), (0, .ref mx)]) (fun n u => (0 ≤ u.1.toInt ∧ u.1.toInt ≤ t_24.toInt ∧ t_24.toInt < u.1.toInt + n) ∧ kt_r u.2.1 P_ (-1) (ml.toInt * mw.toInt - 1) ∧ kt_con u.2.2.1 u.2.1 P_ ∧ (0 ≤ u.2.2.2.2.2.1.toInt ∧ u.2.2.2.2.2.1.toInt ≤ 1) ∧ u.2.2.2.2.2.2.1 = bw ∧ ∀ j : Nat, (j : Int) < u.1.toInt → ¬ u.2.2.2.2.2.2.1 j = 3 → u.2.2.2.2.2.2.2.2 j = 3) (fun u h => by omega) (fun n_96 ih_96 u hI H locs hP hD hS ls hl => ?_) (t_24.toInt.toNat + 1) ((0 : Int32), b1, b2, b3, btk, bsd, bw, bd, bf) (by show (0 ≤ (0 : Int32).toInt ∧ (0 : Int32).toInt ≤ t_24.toInt ∧ t_24.toInt < (0 : Int32).toInt + (t_24.toInt.toNat + 1)) ∧ kt_r b1 P_ (-1) (ml.toInt * mw.toInt - 1) ∧ kt_con b2 b1 P_ ∧ (0 ≤ bsd.toInt ∧ bsd.toInt ≤ 1) ∧ bw = bw ∧ ∀ j : Nat, (j : Int) < (0 : Int32).toInt → ¬ bw j = 3 → bf j = 3; exact ⟨⟨by decide, by rw [kt_c0]; omega, by rw [kt_c0]; omega⟩, hfa, hco, hsd, rfl, fun j hj => by rw [kt_c0] at hj; omega⟩) hP hD hS (lv_sub hl [0, 1, 2, 3, 4, 5] rfl)
          obtain ⟨s2, c1, c2, c3, ctk, csd, cw, cd, cf⟩ := u
          have hP : va_P D vwCl [(mx, .inr (11, [.int ml, .int mw, .ref ms, .int mgl, .int mhd, .int mre, .int mag, .int mkt, .int mho, .int mpc, .int csd, .int mki, .ref mk, .ref ma, .ref mo, .ref mg, .ref mm, .ref mt, .int mdn, .int mun, .ref mn, .int ctk, .ref me, .ref mq, .int msv, .ref mwo, .ref md, .ref mf, .ref mr])), (ma, .inl (cI, 40, .inl c1)), (mo, .inl (cI, 81, .inl c2)), (mg, .inl (cI, 81, .inl fr)), (mk, .inl (cI, 40, .inl fk)), (mn, .inl (cZ, 40, .inl c3)), (mt, .inl (cB, 172241, .inl gs_)), (mwo, .inl (cI, 10000, .inl cw)), (md, .inl (cI, 10000, .inl cd)), (mr, .inl (cI, 10000, .inl cf))] H := hP
          have hD : va_D A [(mx, .inr (11, [.int ml, .int mw, .ref ms, .int mgl, .int mhd, .int mre, .int mag, .int mkt, .int mho, .int mpc, .int csd, .int mki, .ref mk, .ref ma, .ref mo, .ref mg, .ref mm, .ref mt, .int mdn, .int mun, .ref mn, .int ctk, .ref me, .ref mq, .int msv, .ref mwo, .ref md, .ref mf, .ref mr])), (ma, .inl (cI, 40, .inl c1)), (mo, .inl (cI, 81, .inl c2)), (mg, .inl (cI, 81, .inl fr)), (mk, .inl (cI, 40, .inl fk)), (mn, .inl (cZ, 40, .inl c3)), (mt, .inl (cB, 172241, .inl gs_)), (mwo, .inl (cI, 10000, .inl cw)), (md, .inl (cI, 10000, .inl cd)), (mr, .inl (cI, 10000, .inl cf))] := hD
          have hl : lv_has ls 6 [(5, .int s2), (3, .int 0), (4, .int dp), (2, .int cn), (1, .int t_24), (0, .ref mx)] := hl
          have hI : (0 ≤ s2.toInt ∧ s2.toInt ≤ t_24.toInt ∧ t_24.toInt < s2.toInt + (n_96 + 1)) ∧ kt_r c1 P_ (-1) (ml.toInt * mw.toInt - 1) ∧ kt_con c2 c1 P_ ∧ (0 ≤ csd.toInt ∧ csd.toInt ≤ 1) ∧ cw = bw ∧ ∀ j : Nat, (j : Int) < s2.toInt → ¬ cw j = 3 → cf j = 3 := hI
          obtain ⟨hsb2, hfa, hco, hsd, hcw, hfs3⟩ := hI
          refine lv_iload hx hb dX11_solve_96 (lv_at hl 0 rfl) ?_
          refine lv_iload_n hx hb dX11_solve_98 rfl (lv_at hl 4 rfl) ?_
          refine lv_icmp_ge (tgt := 136) hx hb dX11_solve_99 (by decide) (fun c_99 => ?_) (fun c_99 => ?_)
          · have d_99 := c_99
            simp only [kt_lt, kt_le, kt_eq, kt_c0, kt_c1, kt_c2, kt_c3, kt_c4, kt_c8, kt_c9, kt_cm1, kt_c81, kt_c40, kt_c7, kt_c5, kt_c6, kt_c512, kt_c10, kt_c10000] at d_99
            refine lv_iconst (v := 0) hx hb dX11_solve_136 (by decide) ?_
            refine lv_istore (lv' := [(5, .int 0), (3, .int 0), (4, .int dp), (2, .int cn), (1, .int t_24), (0, .ref mx)]) hx hb dX11_solve_137 hl (by decide) rfl (fun ls hl => ?_)
            refine kt_loop (σ := Int32 × Int32 × (Nat → Int32) × (Nat → Int32)) 139 6 (fun u => [(mx, .inr (11, [.int ml, .int mw, .ref ms, .int mgl, .int mhd, .int mre, .int mag, .int mkt, .int mho, .int mpc, .int csd, .int mki, .ref mk, .ref ma, .ref mo, .ref mg, .ref mm, .ref mt, .int mdn, .int mun, .ref mn, .int ctk, .ref me, .ref mq, .int msv, .ref mwo, .ref md, .ref mf, .ref mr])), (ma, .inl (cI, 40, .inl c1)), (mo, .inl (cI, 81, .inl c2)), (mg, .inl (cI, 81, .inl fr)), (mk, .inl (cI, 40, .inl fk)), (mn, .inl (cZ, 40, .inl c3)), (mt, .inl (cB, 172241, .inl gs_)), (mwo, .inl (cI, 10000, .inl u.2.2.1)), (md, .inl (cI, 10000, .inl u.2.2.2)), (mr, .inl (cI, 10000, .inl cf))]) (fun u => [(5, .int u.1), (3, .int u.2.1), (4, .int dp), (2, .int cn), (1, .int t_24), (0, .ref mx)]) (fun n u => (0 ≤ u.1.toInt ∧ u.1.toInt ≤ t_24.toInt ∧ t_24.toInt < u.1.toInt + n) ∧ (kt_ct kt_is3 u.2.2.1 t_24.toInt.toNat ≤ kt_ct kt_is3 bw t_24.toInt.toNat ∧ (¬ u.2.1 = 0 → kt_ct kt_is3 u.2.2.1 t_24.toInt.toNat < kt_ct kt_is3 bw t_24.toInt.toNat)) ∧ ∀ j : Nat, u.1.toInt ≤ (j : Int) → u.2.2.1 j = bw j) (fun u h => by omega) (fun n_139 ih_139 u hI H locs hP hD hS ls hl => ?_) (t_24.toInt.toNat + 1) ((0 : Int32), (0 : Int32), cw, cd) (by show (0 ≤ (0 : Int32).toInt ∧ (0 : Int32).toInt ≤ t_24.toInt ∧ t_24.toInt < (0 : Int32).toInt + (t_24.toInt.toNat + 1)) ∧ (kt_ct kt_is3 cw t_24.toInt.toNat ≤ kt_ct kt_is3 bw t_24.toInt.toNat ∧ (¬ (0 : Int32) = 0 → kt_ct kt_is3 cw t_24.toInt.toNat < kt_ct kt_is3 bw t_24.toInt.toNat)) ∧ ∀ j : Nat, (0 : Int32).toInt ≤ (j : Int) → cw j = bw j; exact ⟨⟨by decide, by rw [kt_c0]; omega, by rw [kt_c0]; omega⟩, ⟨by rw [hcw]; exact Nat.le_refl _, fun h => absurd rfl h⟩, fun j _ => by rw [hcw]⟩) hP hD hS (lv_sub hl [0, 1, 2, 3, 4, 5] rfl)
            obtain ⟨s3, m3, dw, dd⟩ := u
            have hP : va_P D vwCl [(mx, .inr (11, [.int ml, .int mw, .ref ms, .int mgl, .int mhd, .int mre, .int mag, .int mkt, .int mho, .int mpc, .int csd, .int mki, .ref mk, .ref ma, .ref mo, .ref mg, .ref mm, .ref mt, .int mdn, .int mun, .ref mn, .int ctk, .ref me, .ref mq, .int msv, .ref mwo, .ref md, .ref mf, .ref mr])), (ma, .inl (cI, 40, .inl c1)), (mo, .inl (cI, 81, .inl c2)), (mg, .inl (cI, 81, .inl fr)), (mk, .inl (cI, 40, .inl fk)), (mn, .inl (cZ, 40, .inl c3)), (mt, .inl (cB, 172241, .inl gs_)), (mwo, .inl (cI, 10000, .inl dw)), (md, .inl (cI, 10000, .inl dd)), (mr, .inl (cI, 10000, .inl cf))] H := hP
            have hD : va_D A [(mx, .inr (11, [.int ml, .int mw, .ref ms, .int mgl, .int mhd, .int mre, .int mag, .int mkt, .int mho, .int mpc, .int csd, .int mki, .ref mk, .ref ma, .ref mo, .ref mg, .ref mm, .ref mt, .int mdn, .int mun, .ref mn, .int ctk, .ref me, .ref mq, .int msv, .ref mwo, .ref md, .ref mf, .ref mr])), (ma, .inl (cI, 40, .inl c1)), (mo, .inl (cI, 81, .inl c2)), (mg, .inl (cI, 81, .inl fr)), (mk, .inl (cI, 40, .inl fk)), (mn, .inl (cZ, 40, .inl c3)), (mt, .inl (cB, 172241, .inl gs_)), (mwo, .inl (cI, 10000, .inl dw)), (md, .inl (cI, 10000, .inl dd)), (mr, .inl (cI, 10000, .inl cf))] := hD
            have hl : lv_has ls 6 [(5, .int s3), (3, .int m3), (4, .int dp), (2, .int cn), (1, .int t_24), (0, .ref mx)] := hl
            have hI : (0 ≤ s3.toInt ∧ s3.toInt ≤ t_24.toInt ∧ t_24.toInt < s3.toInt + (n_139 + 1)) ∧ (kt_ct kt_is3 dw t_24.toInt.toNat ≤ kt_ct kt_is3 bw t_24.toInt.toNat ∧ (¬ m3 = 0 → kt_ct kt_is3 dw t_24.toInt.toNat < kt_ct kt_is3 bw t_24.toInt.toNat)) ∧ ∀ j : Nat, s3.toInt ≤ (j : Int) → dw j = bw j := hI
            obtain ⟨hsb3, hdc, hdj⟩ := hI
            refine lv_iload hx hb dX11_solve_139 (lv_at hl 0 rfl) ?_
            refine lv_iload_n hx hb dX11_solve_141 rfl (lv_at hl 4 rfl) ?_
            refine lv_icmp_ge (tgt := 190) hx hb dX11_solve_142 (by decide) (fun c_142 => ?_) (fun c_142 => ?_)
            · have d_142 := c_142
              simp only [kt_lt, kt_le, kt_eq, kt_c0, kt_c1, kt_c2, kt_c3, kt_c4, kt_c8, kt_c9, kt_cm1, kt_c81, kt_c40, kt_c7, kt_c5, kt_c6, kt_c512, kt_c10, kt_c10000] at d_142
              obtain ⟨t_190, et_190⟩ : ∃ y : Int32, y = dp + 1 := ⟨_, rfl⟩
              obtain ⟨k_190, hk_190, hm_190, hM_190⟩ := kt_addk et_190
              try simp only [kt_c0, kt_c1, kt_c2, kt_c3, kt_c4, kt_c8, kt_c9, kt_cm1, kt_c81, kt_c40, kt_c7, kt_c5, kt_c6, kt_c512, kt_c10, kt_c10000] at hk_190
              refine lv_iinc (v := t_190) (lv' := [(4, .int t_190), (5, .int s3), (3, .int m3), (2, .int cn), (1, .int t_24), (0, .ref mx)]) hx hb dX11_solve_190 hl (k := 2) rfl (by rw [et_190]; rfl) (by decide) rfl (fun ls hl => ?_)
              refine lv_goto (tgt := 87) hx hb dX11_solve_193 (by decide) ?_
              exact ih_87 (m3, t_190, c1, c2, c3, ctk, csd, dw, dd, cf) (by show (1 ≤ n_87 ∧ (¬ m3 = 0 → kt_ct kt_is3 dw t_24.toInt.toNat + 2 ≤ n_87)) ∧ kt_r c1 P_ (-1) (ml.toInt * mw.toInt - 1) ∧ kt_con c2 c1 P_ ∧ (0 ≤ csd.toInt ∧ csd.toInt ≤ 1); exact ⟨⟨by have := hfu.2 c_88; omega, fun h => by have := hfu.2 c_88; have := hdc.2 h; omega⟩, hfa, hco, hsd⟩) H _ hP hD hS ls (lv_sub hl [0, 2, 3, 4, 5] rfl)
            · have d_142 := c_142
              simp only [kt_lt, kt_le, kt_eq, kt_c0, kt_c1, kt_c2, kt_c3, kt_c4, kt_c8, kt_c9, kt_cm1, kt_c81, kt_c40, kt_c7, kt_c5, kt_c6, kt_c512, kt_c10, kt_c10000] at d_142
              refine lv_aload_n hx hb dX11_solve_145 rfl (lv_at hl 5 rfl) ?_
              refine va_get (D := D) (ci := 11) (C := RX11) (T := TX11) (N := 29) hx hb hts iw_X11_solve_X11 hown hK hP 0 rfl rfl 28 (by decide) (hts (.fieldLink RX11 66 "KingTableModel" "fresh" "[I") (kt_wp_X11_solve__X11_solve_r1 kt_wm4)) (fun _ h9 => h9) rfl dX11_solve_146 ?_
              refine lv_iload hx hb dX11_solve_149 (lv_at hl 0 rfl) ?_
              have hi_3 : vp_in s3 10000 := by exact kt_in (by omega) (by omega)
              refine va_iald hx hb hK hP 9 0 rfl rfl hi_3 dX11_solve_151 ?_
              refine lv_topi (fun a_151 ea_151 => ?_)
              refine lv_iconst (v := 3) hx hb dX11_solve_152 (by decide) ?_
              refine lv_icmp_ne (tgt := 159) hx hb dX11_solve_153 (by decide) (fun c_153 => ?_) (fun c_153 => ?_)
              · have d_153 := c_153
                simp only [kt_lt, kt_le, kt_eq, kt_c0, kt_c1, kt_c2, kt_c3, kt_c4, kt_c8, kt_c9, kt_cm1, kt_c81, kt_c40, kt_c7, kt_c5, kt_c6, kt_c512, kt_c10, kt_c10000] at d_153
                
                refine lv_aload_n hx hb dX11_solve_159 rfl (lv_at hl 5 rfl) ?_
                
                refine va_get (D := D) (ci := 11) (C := RX11) (T := TX11) (N := 29) hx hb hts iw_X11_solve_X11 hown hK hP 0 rfl rfl 25 (by decide) (hts (.fieldLink RX11 57 "KingTableModel" "worths" "[I") (kt_wp_X11_solve__X11_solve_r1 kt_wm2)) (fun _ h9 => h9) rfl dX11_solve_160 ?_
                refine lv_iload hx hb dX11_solve_163 (lv_at hl 0 rfl) ?_
                refine lv_aload_n hx hb dX11_solve_165 rfl (lv_at hl 5 rfl) ?_
                refine va_get (D := D) (ci := 11) (C := RX11) (T := TX11) (N := 29) hx hb hts iw_X11_solve_X11 hown hK hP 0 rfl rfl 28 (by decide) (hts (.fieldLink RX11 66 "KingTableModel" "fresh" "[I") (kt_wp_X11_solve__X11_solve_r1 kt_wm4)) (fun _ h9 => h9) rfl dX11_solve_166 ?_
                refine lv_iload hx hb dX11_solve_169 (lv_at hl 0 rfl) ?_
                have hi_4 : vp_in s3 10000 := by exact kt_in (by omega) (by omega)
                refine va_iald hx hb hK hP 9 0 rfl rfl hi_4 dX11_solve_171 ?_
                refine lv_topi (fun a_171 ea_171 => ?_)
                have hi_5 : vp_in s3 10000 := by exact kt_in (by omega) (by omega)
                refine va_iast hx hb hK hP hD hS 7 0 rfl rfl hi_5 dX11_solve_172 (fun H locs hP hD hS => ?_)
                have hP : va_P D vwCl [(mx, .inr (11, [.int ml, .int mw, .ref ms, .int mgl, .int mhd, .int mre, .int mag, .int mkt, .int mho, .int mpc, .int csd, .int mki, .ref mk, .ref ma, .ref mo, .ref mg, .ref mm, .ref mt, .int mdn, .int mun, .ref mn, .int ctk, .ref me, .ref mq, .int msv, .ref mwo, .ref md, .ref mf, .ref mr])), (ma, .inl (cI, 40, .inl c1)), (mo, .inl (cI, 81, .inl c2)), (mg, .inl (cI, 81, .inl fr)), (mk, .inl (cI, 40, .inl fk)), (mn, .inl (cZ, 40, .inl c3)), (mt, .inl (cB, 172241, .inl gs_)), (mwo, .inl (cI, 10000, .inl (upd dw s3.toNatClampNeg a_171))), (md, .inl (cI, 10000, .inl dd)), (mr, .inl (cI, 10000, .inl cf))] H := hP
                have hD : va_D A [(mx, .inr (11, [.int ml, .int mw, .ref ms, .int mgl, .int mhd, .int mre, .int mag, .int mkt, .int mho, .int mpc, .int csd, .int mki, .ref mk, .ref ma, .ref mo, .ref mg, .ref mm, .ref mt, .int mdn, .int mun, .ref mn, .int ctk, .ref me, .ref mq, .int msv, .ref mwo, .ref md, .ref mf, .ref mr])), (ma, .inl (cI, 40, .inl c1)), (mo, .inl (cI, 81, .inl c2)), (mg, .inl (cI, 81, .inl fr)), (mk, .inl (cI, 40, .inl fk)), (mn, .inl (cZ, 40, .inl c3)), (mt, .inl (cB, 172241, .inl gs_)), (mwo, .inl (cI, 10000, .inl (upd dw s3.toNatClampNeg a_171))), (md, .inl (cI, 10000, .inl dd)), (mr, .inl (cI, 10000, .inl cf))] := hD
                refine lv_aload_n hx hb dX11_solve_173 rfl (lv_at hl 5 rfl) ?_
                refine va_get (D := D) (ci := 11) (C := RX11) (T := TX11) (N := 29) hx hb hts iw_X11_solve_X11 hown hK hP 0 rfl rfl 26 (by decide) (hts (.fieldLink RX11 60 "KingTableModel" "deeps" "[I") (kt_wp_X11_solve__X11_solve_r1 kt_wm3)) (fun _ h9 => h9) rfl dX11_solve_174 ?_
                refine lv_iload hx hb dX11_solve_177 (lv_at hl 0 rfl) ?_
                refine lv_iload hx hb dX11_solve_179 (lv_at hl 2 rfl) ?_
                have hi_6 : vp_in s3 10000 := by exact kt_in (by omega) (by omega)
                refine va_iast hx hb hK hP hD hS 8 0 rfl rfl hi_6 dX11_solve_181 (fun H locs hP hD hS => ?_)
                have hP : va_P D vwCl [(mx, .inr (11, [.int ml, .int mw, .ref ms, .int mgl, .int mhd, .int mre, .int mag, .int mkt, .int mho, .int mpc, .int csd, .int mki, .ref mk, .ref ma, .ref mo, .ref mg, .ref mm, .ref mt, .int mdn, .int mun, .ref mn, .int ctk, .ref me, .ref mq, .int msv, .ref mwo, .ref md, .ref mf, .ref mr])), (ma, .inl (cI, 40, .inl c1)), (mo, .inl (cI, 81, .inl c2)), (mg, .inl (cI, 81, .inl fr)), (mk, .inl (cI, 40, .inl fk)), (mn, .inl (cZ, 40, .inl c3)), (mt, .inl (cB, 172241, .inl gs_)), (mwo, .inl (cI, 10000, .inl (upd dw s3.toNatClampNeg a_171))), (md, .inl (cI, 10000, .inl (upd dd s3.toNatClampNeg dp))), (mr, .inl (cI, 10000, .inl cf))] H := hP
                have hD : va_D A [(mx, .inr (11, [.int ml, .int mw, .ref ms, .int mgl, .int mhd, .int mre, .int mag, .int mkt, .int mho, .int mpc, .int csd, .int mki, .ref mk, .ref ma, .ref mo, .ref mg, .ref mm, .ref mt, .int mdn, .int mun, .ref mn, .int ctk, .ref me, .ref mq, .int msv, .ref mwo, .ref md, .ref mf, .ref mr])), (ma, .inl (cI, 40, .inl c1)), (mo, .inl (cI, 81, .inl c2)), (mg, .inl (cI, 81, .inl fr)), (mk, .inl (cI, 40, .inl fk)), (mn, .inl (cZ, 40, .inl c3)), (mt, .inl (cB, 172241, .inl gs_)), (mwo, .inl (cI, 10000, .inl (upd dw s3.toNatClampNeg a_171))), (md, .inl (cI, 10000, .inl (upd dd s3.toNatClampNeg dp))), (mr, .inl (cI, 10000, .inl cf))] := hD
                refine lv_iconst (v := 1) hx hb dX11_solve_182 (by decide) ?_
                refine lv_istore_n (lv' := [(3, .int 1), (5, .int s3), (4, .int dp), (2, .int cn), (1, .int t_24), (0, .ref mx)]) hx hb dX11_solve_183 rfl hl (by decide) rfl (fun ls hl => ?_)
                obtain ⟨t_184, et_184⟩ : ∃ y : Int32, y = s3 + 1 := ⟨_, rfl⟩
                obtain ⟨k_184, hk_184, hm_184, hM_184⟩ := kt_addk et_184
                try simp only [kt_c0, kt_c1, kt_c2, kt_c3, kt_c4, kt_c8, kt_c9, kt_cm1, kt_c81, kt_c40, kt_c7, kt_c5, kt_c6, kt_c512, kt_c10, kt_c10000] at hk_184
                refine lv_iinc (v := t_184) (lv' := [(5, .int t_184), (3, .int 1), (4, .int dp), (2, .int cn), (1, .int t_24), (0, .ref mx)]) hx hb dX11_solve_184 hl (k := 1) rfl (by rw [et_184]; rfl) (by decide) rfl (fun ls hl => ?_)
                refine lv_goto (tgt := 139) hx hb dX11_solve_187 (by decide) ?_
                exact ih_139 (t_184, (1 : Int32), (upd dw s3.toNatClampNeg a_171), (upd dd s3.toNatClampNeg dp)) (by show (0 ≤ t_184.toInt ∧ t_184.toInt ≤ t_24.toInt ∧ t_24.toInt < t_184.toInt + n_139) ∧ (kt_ct kt_is3 (upd dw s3.toNatClampNeg a_171) t_24.toInt.toNat ≤ kt_ct kt_is3 bw t_24.toInt.toNat ∧ (¬ (1 : Int32) = 0 → kt_ct kt_is3 (upd dw s3.toNatClampNeg a_171) t_24.toInt.toNat < kt_ct kt_is3 bw t_24.toInt.toNat)) ∧ ∀ j : Nat, t_184.toInt ≤ (j : Int) → (upd dw s3.toNatClampNeg a_171) j = bw j; first
                              | exact ⟨by omega, hdc, fun j hj => hdj j (by omega)⟩
                              | (have h8 : dw s3.toInt.toNat = 3 := Classical.byContradiction (fun hne => c_153 (ea_151.trans (hfs3 s3.toInt.toNat (by omega) (by rw [hcw]; rw [hdj s3.toInt.toNat (by omega)] at hne; exact hne))))
                                 have hq171 : a_171 = a_151 := by rw [ea_171, ea_151]
                                 have h9 := kt_ct_upd (P := kt_is3) (f := dw) (i := s3.toInt.toNat) (x := a_171) (n := t_24.toInt.toNat) (by omega) (by unfold kt_is3; rw [h8]; decide) (by unfold kt_is3; rw [hq171]; simpa using c_153)
                                 have h10 : kt_ct kt_is3 (upd dw s3.toNatClampNeg a_171) t_24.toInt.toNat + 1 = kt_ct kt_is3 dw t_24.toInt.toNat := h9
                                 exact ⟨by omega, ⟨by omega, fun _ => by omega⟩, fun j hj => by rw [pk_un (show j ≠ s3.toNatClampNeg from (show j ≠ s3.toInt.toNat by omega))]; exact hdj j (by omega)⟩)) H _ hP hD hS ls (lv_sub hl [0, 1, 2, 3, 4, 5] rfl)
              · have d_153 := c_153
                simp only [kt_lt, kt_le, kt_eq, kt_c0, kt_c1, kt_c2, kt_c3, kt_c4, kt_c8, kt_c9, kt_cm1, kt_c81, kt_c40, kt_c7, kt_c5, kt_c6, kt_c512, kt_c10, kt_c10000] at d_153
                refine lv_goto (tgt := 184) hx hb dX11_solve_156 (by decide) ?_
                obtain ⟨t_184, et_184⟩ : ∃ y : Int32, y = s3 + 1 := ⟨_, rfl⟩
                obtain ⟨k_184, hk_184, hm_184, hM_184⟩ := kt_addk et_184
                try simp only [kt_c0, kt_c1, kt_c2, kt_c3, kt_c4, kt_c8, kt_c9, kt_cm1, kt_c81, kt_c40, kt_c7, kt_c5, kt_c6, kt_c512, kt_c10, kt_c10000] at hk_184
                refine lv_iinc (v := t_184) (lv' := [(5, .int t_184), (3, .int m3), (4, .int dp), (2, .int cn), (1, .int t_24), (0, .ref mx)]) hx hb dX11_solve_184 hl (k := 0) rfl (by rw [et_184]; rfl) (by decide) rfl (fun ls hl => ?_)
                refine lv_goto (tgt := 139) hx hb dX11_solve_187 (by decide) ?_
                exact ih_139 (t_184, m3, dw, dd) (by show (0 ≤ t_184.toInt ∧ t_184.toInt ≤ t_24.toInt ∧ t_24.toInt < t_184.toInt + n_139) ∧ (kt_ct kt_is3 dw t_24.toInt.toNat ≤ kt_ct kt_is3 bw t_24.toInt.toNat ∧ (¬ m3 = 0 → kt_ct kt_is3 dw t_24.toInt.toNat < kt_ct kt_is3 bw t_24.toInt.toNat)) ∧ ∀ j : Nat, t_184.toInt ≤ (j : Int) → dw j = bw j; first
                              | exact ⟨by omega, hdc, fun j hj => hdj j (by omega)⟩
                              | (have h8 : dw s3.toInt.toNat = 3 := Classical.byContradiction (fun hne => c_153 (ea_151.trans (hfs3 s3.toInt.toNat (by omega) (by rw [hcw]; rw [hdj s3.toInt.toNat (by omega)] at hne; exact hne))))
                                 have hq171 : a_171 = a_151 := by rw [ea_171, ea_151]
                                 have h9 := kt_ct_upd (P := kt_is3) (f := dw) (i := s3.toInt.toNat) (x := a_171) (n := t_24.toInt.toNat) (by omega) (by unfold kt_is3; rw [h8]; decide) (by unfold kt_is3; rw [hq171]; simpa using c_153)
                                 have h10 : kt_ct kt_is3 (upd dw s3.toNatClampNeg a_171) t_24.toInt.toNat + 1 = kt_ct kt_is3 dw t_24.toInt.toNat := h9
                                 exact ⟨by omega, ⟨by omega, fun _ => by omega⟩, fun j hj => by rw [pk_un (show j ≠ s3.toNatClampNeg from (show j ≠ s3.toInt.toNat by omega))]; exact hdj j (by omega)⟩)) H _ hP hD hS ls (lv_sub hl [0, 1, 2, 3, 4, 5] rfl)
          · have d_99 := c_99
            simp only [kt_lt, kt_le, kt_eq, kt_c0, kt_c1, kt_c2, kt_c3, kt_c4, kt_c8, kt_c9, kt_cm1, kt_c81, kt_c40, kt_c7, kt_c5, kt_c6, kt_c512, kt_c10, kt_c10000] at d_99
            refine lv_aload_n hx hb dX11_solve_102 rfl (lv_at hl 5 rfl) ?_
            refine va_get (D := D) (ci := 11) (C := RX11) (T := TX11) (N := 29) hx hb hts iw_X11_solve_X11 hown hK hP 0 rfl rfl 28 (by decide) (hts (.fieldLink RX11 66 "KingTableModel" "fresh" "[I") (kt_wp_X11_solve__X11_solve_r1 kt_wm4)) (fun _ h9 => h9) rfl dX11_solve_103 ?_
            refine lv_iload hx hb dX11_solve_106 (lv_at hl 0 rfl) ?_
            refine lv_aload_n hx hb dX11_solve_108 rfl (lv_at hl 5 rfl) ?_
            refine va_get (D := D) (ci := 11) (C := RX11) (T := TX11) (N := 29) hx hb hts iw_X11_solve_X11 hown hK hP 0 rfl rfl 25 (by decide) (hts (.fieldLink RX11 57 "KingTableModel" "worths" "[I") (kt_wp_X11_solve__X11_solve_r1 kt_wm2)) (fun _ h9 => h9) rfl dX11_solve_109 ?_
            refine lv_iload hx hb dX11_solve_112 (lv_at hl 0 rfl) ?_
            have hi_7 : vp_in s2 10000 := by exact kt_in (by omega) (by omega)
            refine va_iald hx hb hK hP 7 0 rfl rfl hi_7 dX11_solve_114 ?_
            refine lv_topi (fun a_114 ea_114 => ?_)
            refine lv_iconst (v := 3) hx hb dX11_solve_115 (by decide) ?_
            refine lv_icmp_ne (tgt := 128) hx hb dX11_solve_116 (by decide) (fun c_116 => ?_) (fun c_116 => ?_)
            · have d_116 := c_116
              simp only [kt_lt, kt_le, kt_eq, kt_c0, kt_c1, kt_c2, kt_c3, kt_c4, kt_c8, kt_c9, kt_cm1, kt_c81, kt_c40, kt_c7, kt_c5, kt_c6, kt_c512, kt_c10, kt_c10000] at d_116
              refine lv_iconst (v := 3) hx hb dX11_solve_128 (by decide) ?_
              have hi_8 : vp_in s2 10000 := by exact kt_in (by omega) (by omega)
              refine va_iast hx hb hK hP hD hS 9 0 rfl rfl hi_8 dX11_solve_129 (fun H locs hP hD hS => ?_)
              have hP : va_P D vwCl [(mx, .inr (11, [.int ml, .int mw, .ref ms, .int mgl, .int mhd, .int mre, .int mag, .int mkt, .int mho, .int mpc, .int csd, .int mki, .ref mk, .ref ma, .ref mo, .ref mg, .ref mm, .ref mt, .int mdn, .int mun, .ref mn, .int ctk, .ref me, .ref mq, .int msv, .ref mwo, .ref md, .ref mf, .ref mr])), (ma, .inl (cI, 40, .inl c1)), (mo, .inl (cI, 81, .inl c2)), (mg, .inl (cI, 81, .inl fr)), (mk, .inl (cI, 40, .inl fk)), (mn, .inl (cZ, 40, .inl c3)), (mt, .inl (cB, 172241, .inl gs_)), (mwo, .inl (cI, 10000, .inl cw)), (md, .inl (cI, 10000, .inl cd)), (mr, .inl (cI, 10000, .inl (upd cf s2.toNatClampNeg 3)))] H := hP
              have hD : va_D A [(mx, .inr (11, [.int ml, .int mw, .ref ms, .int mgl, .int mhd, .int mre, .int mag, .int mkt, .int mho, .int mpc, .int csd, .int mki, .ref mk, .ref ma, .ref mo, .ref mg, .ref mm, .ref mt, .int mdn, .int mun, .ref mn, .int ctk, .ref me, .ref mq, .int msv, .ref mwo, .ref md, .ref mf, .ref mr])), (ma, .inl (cI, 40, .inl c1)), (mo, .inl (cI, 81, .inl c2)), (mg, .inl (cI, 81, .inl fr)), (mk, .inl (cI, 40, .inl fk)), (mn, .inl (cZ, 40, .inl c3)), (mt, .inl (cB, 172241, .inl gs_)), (mwo, .inl (cI, 10000, .inl cw)), (md, .inl (cI, 10000, .inl cd)), (mr, .inl (cI, 10000, .inl (upd cf s2.toNatClampNeg 3)))] := hD
              obtain ⟨t_130, et_130⟩ : ∃ y : Int32, y = s2 + 1 := ⟨_, rfl⟩
              obtain ⟨k_130, hk_130, hm_130, hM_130⟩ := kt_addk et_130
              try simp only [kt_c0, kt_c1, kt_c2, kt_c3, kt_c4, kt_c8, kt_c9, kt_cm1, kt_c81, kt_c40, kt_c7, kt_c5, kt_c6, kt_c512, kt_c10, kt_c10000] at hk_130
              refine lv_iinc (v := t_130) (lv' := [(5, .int t_130), (3, .int 0), (4, .int dp), (2, .int cn), (1, .int t_24), (0, .ref mx)]) hx hb dX11_solve_130 hl (k := 0) rfl (by rw [et_130]; rfl) (by decide) rfl (fun ls hl => ?_)
              refine lv_goto (tgt := 96) hx hb dX11_solve_133 (by decide) ?_
              exact ih_96 (t_130, c1, c2, c3, ctk, csd, cw, cd, (upd cf s2.toNatClampNeg 3)) (by show (0 ≤ t_130.toInt ∧ t_130.toInt ≤ t_24.toInt ∧ t_24.toInt < t_130.toInt + n_96) ∧ kt_r c1 P_ (-1) (ml.toInt * mw.toInt - 1) ∧ kt_con c2 c1 P_ ∧ (0 ≤ csd.toInt ∧ csd.toInt ≤ 1) ∧ cw = bw ∧ ∀ j : Nat, (j : Int) < t_130.toInt → ¬ cw j = 3 → (upd cf s2.toNatClampNeg 3) j = 3; first
                            | exact ⟨by omega, hfa, hco, hsd, hcw, fun j hj hne => if e : j = s2.toNatClampNeg then absurd (by rw [e]; exact ea_114.symm.trans c_116) hne else (by rw [pk_un e]; exact hfs3 j (by have : ¬ j = s2.toInt.toNat := e; omega) hne)⟩
                            | exact ⟨by omega, hfa, hco, hsd, hcw, fun j hj hne => if e : j = s2.toNatClampNeg then (by rw [e, pk_us]) else (by rw [pk_un e]; exact hfs3 j (by have : ¬ j = s2.toInt.toNat := e; omega) hne)⟩) H _ hP hD hS ls (lv_sub hl [0, 1, 2, 3, 4, 5] rfl)
            · have d_116 := c_116
              simp only [kt_lt, kt_le, kt_eq, kt_c0, kt_c1, kt_c2, kt_c3, kt_c4, kt_c8, kt_c9, kt_cm1, kt_c81, kt_c40, kt_c7, kt_c5, kt_c6, kt_c512, kt_c10, kt_c10000] at d_116
              
              refine lv_aload_n hx hb dX11_solve_119 rfl (lv_at hl 5 rfl) ?_
              refine lv_iload hx hb dX11_solve_120 (lv_at hl 0 rfl) ?_
              refine kt_bi (wc := [(mx, .inr (11, [.int ml, .int mw, .ref ms, .int mgl, .int mhd, .int mre, .int mag, .int mkt, .int mho, .int mpc, .int csd, .int mki, .ref mk, .ref ma, .ref mo, .ref mg, .ref mm, .ref mt, .int mdn, .int mun, .ref mn, .int ctk, .ref me, .ref mq, .int msv, .ref mwo, .ref md, .ref mf, .ref mr])), (ma, .inl (cI, 40, .inl c1)), (mo, .inl (cI, 81, .inl c2)), (mg, .inl (cI, 81, .inl fr)), (mk, .inl (cI, 40, .inl fk)), (mn, .inl (cZ, 40, .inl c3)), (mwo, .inl (cI, 10000, .inl cw))]) (wr := [(mt, .inl (cB, 172241, .inl gs_)), (md, .inl (cI, 10000, .inl cd)), (mr, .inl (cI, 10000, .inl cf))]) [0, 1, 2, 3, 4, 5, 7] [6, 8, 9] hP hD hS hA rfl rfl (by decide) (by decide) (by decide) (fun hPc hDc => va_runV (As := [.int s2]) (rest := [.int s2, .ref mr]) ⟨hx, hb, hml, hown, hts⟩ (c_X11_tried l D cI cZ cB H.size mx ms mk ma mo mg mm mt mn me mq mwo md mf mr ml mw mgl mhd mre mag mkt mho mpc csd mki mdn mun ctk msv P_ c1 c2 fr fk c3 cw s2 hml_ hmw hpc hfa hco hsd hst_ (by omega)) (cwV 1 hts gX11_solve_X11_tried rfl rfl rfl (by decide +kernel) ⟨Nat.le_of_ble_eq_true rfl, Nat.le_of_ble_eq_true rfl⟩) (kt_preV hN hK hPc hDc 0 (ci := 11) (q := (RX11, TX11, 29)) rfl rfl) rfl rfl hl.1 rfl (lv_room (Nat.le_of_ble_eq_true rfl)) dX11_solve_122 ⟨Nat.le_of_ble_eq_true rfl, Nat.le_of_ble_eq_true rfl⟩) (fun r_122 u_ H locs hw_122 hP hD hS => ?_)
              obtain ⟨z1_122, z2_122, z3_122, ztk_122, zsd_122⟩ := u_
              have hP : va_P D vwCl [(mx, .inr (11, [.int ml, .int mw, .ref ms, .int mgl, .int mhd, .int mre, .int mag, .int mkt, .int mho, .int mpc, .int zsd_122, .int mki, .ref mk, .ref ma, .ref mo, .ref mg, .ref mm, .ref mt, .int mdn, .int mun, .ref mn, .int ztk_122, .ref me, .ref mq, .int msv, .ref mwo, .ref md, .ref mf, .ref mr])), (ma, .inl (cI, 40, .inl z1_122)), (mo, .inl (cI, 81, .inl z2_122)), (mg, .inl (cI, 81, .inl fr)), (mk, .inl (cI, 40, .inl fk)), (mn, .inl (cZ, 40, .inl z3_122)), (mt, .inl (cB, 172241, .inl gs_)), (mwo, .inl (cI, 10000, .inl cw)), (md, .inl (cI, 10000, .inl cd)), (mr, .inl (cI, 10000, .inl cf))] H := hP.sub [3, 4, 5, 6, 7, 8, 0, 9, 1, 2] rfl
              have hD : va_D A [(mx, .inr (11, [.int ml, .int mw, .ref ms, .int mgl, .int mhd, .int mre, .int mag, .int mkt, .int mho, .int mpc, .int zsd_122, .int mki, .ref mk, .ref ma, .ref mo, .ref mg, .ref mm, .ref mt, .int mdn, .int mun, .ref mn, .int ztk_122, .ref me, .ref mq, .int msv, .ref mwo, .ref md, .ref mf, .ref mr])), (ma, .inl (cI, 40, .inl z1_122)), (mo, .inl (cI, 81, .inl z2_122)), (mg, .inl (cI, 81, .inl fr)), (mk, .inl (cI, 40, .inl fk)), (mn, .inl (cZ, 40, .inl z3_122)), (mt, .inl (cB, 172241, .inl gs_)), (mwo, .inl (cI, 10000, .inl cw)), (md, .inl (cI, 10000, .inl cd)), (mr, .inl (cI, 10000, .inl cf))] := hD.sub [3, 4, 5, 6, 7, 8, 0, 9, 1, 2] (by decide) rfl
              try dsimp only at hw_122
              obtain ⟨hr_, hfa, hco, hsd⟩ := hw_122
              refine lv_goto (tgt := 129) hx hb dX11_solve_125 (by decide) ?_
              have hi_9 : vp_in s2 10000 := by exact kt_in (by omega) (by omega)
              refine va_iast hx hb hK hP hD hS 9 0 rfl rfl hi_9 dX11_solve_129 (fun H locs hP hD hS => ?_)
              have hP : va_P D vwCl [(mx, .inr (11, [.int ml, .int mw, .ref ms, .int mgl, .int mhd, .int mre, .int mag, .int mkt, .int mho, .int mpc, .int zsd_122, .int mki, .ref mk, .ref ma, .ref mo, .ref mg, .ref mm, .ref mt, .int mdn, .int mun, .ref mn, .int ztk_122, .ref me, .ref mq, .int msv, .ref mwo, .ref md, .ref mf, .ref mr])), (ma, .inl (cI, 40, .inl z1_122)), (mo, .inl (cI, 81, .inl z2_122)), (mg, .inl (cI, 81, .inl fr)), (mk, .inl (cI, 40, .inl fk)), (mn, .inl (cZ, 40, .inl z3_122)), (mt, .inl (cB, 172241, .inl gs_)), (mwo, .inl (cI, 10000, .inl cw)), (md, .inl (cI, 10000, .inl cd)), (mr, .inl (cI, 10000, .inl (upd cf s2.toNatClampNeg r_122)))] H := hP
              have hD : va_D A [(mx, .inr (11, [.int ml, .int mw, .ref ms, .int mgl, .int mhd, .int mre, .int mag, .int mkt, .int mho, .int mpc, .int zsd_122, .int mki, .ref mk, .ref ma, .ref mo, .ref mg, .ref mm, .ref mt, .int mdn, .int mun, .ref mn, .int ztk_122, .ref me, .ref mq, .int msv, .ref mwo, .ref md, .ref mf, .ref mr])), (ma, .inl (cI, 40, .inl z1_122)), (mo, .inl (cI, 81, .inl z2_122)), (mg, .inl (cI, 81, .inl fr)), (mk, .inl (cI, 40, .inl fk)), (mn, .inl (cZ, 40, .inl z3_122)), (mt, .inl (cB, 172241, .inl gs_)), (mwo, .inl (cI, 10000, .inl cw)), (md, .inl (cI, 10000, .inl cd)), (mr, .inl (cI, 10000, .inl (upd cf s2.toNatClampNeg r_122)))] := hD
              obtain ⟨t_130, et_130⟩ : ∃ y : Int32, y = s2 + 1 := ⟨_, rfl⟩
              obtain ⟨k_130, hk_130, hm_130, hM_130⟩ := kt_addk et_130
              try simp only [kt_c0, kt_c1, kt_c2, kt_c3, kt_c4, kt_c8, kt_c9, kt_cm1, kt_c81, kt_c40, kt_c7, kt_c5, kt_c6, kt_c512, kt_c10, kt_c10000] at hk_130
              refine lv_iinc (v := t_130) (lv' := [(5, .int t_130), (3, .int 0), (4, .int dp), (2, .int cn), (1, .int t_24), (0, .ref mx)]) hx hb dX11_solve_130 hl (k := 0) rfl (by rw [et_130]; rfl) (by decide) rfl (fun ls hl => ?_)
              refine lv_goto (tgt := 96) hx hb dX11_solve_133 (by decide) ?_
              exact ih_96 (t_130, z1_122, z2_122, z3_122, ztk_122, zsd_122, cw, cd, (upd cf s2.toNatClampNeg r_122)) (by show (0 ≤ t_130.toInt ∧ t_130.toInt ≤ t_24.toInt ∧ t_24.toInt < t_130.toInt + n_96) ∧ kt_r z1_122 P_ (-1) (ml.toInt * mw.toInt - 1) ∧ kt_con z2_122 z1_122 P_ ∧ (0 ≤ zsd_122.toInt ∧ zsd_122.toInt ≤ 1) ∧ cw = bw ∧ ∀ j : Nat, (j : Int) < t_130.toInt → ¬ cw j = 3 → (upd cf s2.toNatClampNeg r_122) j = 3; first
                            | exact ⟨by omega, hfa, hco, hsd, hcw, fun j hj hne => if e : j = s2.toNatClampNeg then absurd (by rw [e]; exact ea_114.symm.trans c_116) hne else (by rw [pk_un e]; exact hfs3 j (by have : ¬ j = s2.toInt.toNat := e; omega) hne)⟩
                            | exact ⟨by omega, hfa, hco, hsd, hcw, fun j hj hne => if e : j = s2.toNatClampNeg then (by rw [e, pk_us]) else (by rw [pk_un e]; exact hfs3 j (by have : ¬ j = s2.toInt.toNat := e; omega) hne)⟩) H _ hP hD hS ls (lv_sub hl [0, 1, 2, 3, 4, 5] rfl)
      · have d_32 := c_32
        simp only [kt_lt, kt_le, kt_eq, kt_c0, kt_c1, kt_c2, kt_c3, kt_c4, kt_c8, kt_c9, kt_cm1, kt_c81, kt_c40, kt_c7, kt_c5, kt_c6, kt_c512, kt_c10, kt_c10000] at d_32
        refine lv_aload_n hx hb dX11_solve_35 rfl (lv_at hl 3 rfl) ?_
        refine lv_iload_n hx hb dX11_solve_36 rfl (lv_at hl 0 rfl) ?_
        refine kt_bi (wc := [(mx, .inr (11, [.int ml, .int mw, .ref ms, .int mgl, .int mhd, .int mre, .int mag, .int mkt, .int mho, .int mpc, .int asd, .int mki, .ref mk, .ref ma, .ref mo, .ref mg, .ref mm, .ref mt, .int mdn, .int mun, .ref mn, .int atk, .ref me, .ref mq, .int msv, .ref mwo, .ref md, .ref mf, .ref mr])), (ma, .inl (cI, 40, .inl a1)), (mo, .inl (cI, 81, .inl a2)), (mg, .inl (cI, 81, .inl fr)), (mk, .inl (cI, 40, .inl fk))]) (wr := [(mn, .inl (cZ, 40, .inl a3)), (mt, .inl (cB, 172241, .inl gs_)), (mwo, .inl (cI, 10000, .inl aw)), (md, .inl (cI, 10000, .inl ad)), (mr, .inl (cI, 10000, .inl gf))]) [0, 1, 2, 3, 4] [5, 6, 7, 8, 9] hP hD hS hA rfl rfl (by decide) (by decide) (by decide) (fun hPc hDc => va_runV (As := [.int s_]) (rest := []) ⟨hx, hb, hml, hown, hts⟩ (c_X11_setUp l D cI cZ cB H.size mx ms mk ma mo mg mm mt mn me mq mwo md mf mr ml mw mgl mhd mre mag mkt mho mpc asd mki mdn mun atk msv P_ a1 a2 fr fk s_ (by first | assumption | omega | rfl | decide) (by first | assumption | omega | rfl | decide) (by first | assumption | omega | rfl | decide) (by first | assumption | omega | rfl | decide) (by first | assumption | omega | rfl | decide) (by first | assumption | omega | rfl | decide)) (cwV 1 hts gX11_solve_X11_setUp rfl rfl rfl (by decide +kernel) ⟨Nat.le_of_ble_eq_true rfl, Nat.le_of_ble_eq_true rfl⟩) (kt_preV hN hK hPc hDc 0 (ci := 11) (q := (RX11, TX11, 29)) rfl rfl) rfl rfl hl.1 rfl (lv_room (Nat.le_of_ble_eq_true rfl)) dX11_solve_37 ⟨Nat.le_of_ble_eq_true rfl, Nat.le_of_ble_eq_true rfl⟩) (fun r_37 u_ H locs hw_37 hP hD hS => ?_)
        obtain ⟨fa2_37, fo2_37, msd2_37⟩ := u_
        have hP : va_P D vwCl [(mx, .inr (11, [.int ml, .int mw, .ref ms, .int mgl, .int mhd, .int mre, .int mag, .int mkt, .int mho, .int mpc, .int msd2_37, .int mki, .ref mk, .ref ma, .ref mo, .ref mg, .ref mm, .ref mt, .int mdn, .int mun, .ref mn, .int atk, .ref me, .ref mq, .int msv, .ref mwo, .ref md, .ref mf, .ref mr])), (ma, .inl (cI, 40, .inl fa2_37)), (mo, .inl (cI, 81, .inl fo2_37)), (mg, .inl (cI, 81, .inl fr)), (mk, .inl (cI, 40, .inl fk)), (mn, .inl (cZ, 40, .inl a3)), (mt, .inl (cB, 172241, .inl gs_)), (mwo, .inl (cI, 10000, .inl aw)), (md, .inl (cI, 10000, .inl ad)), (mr, .inl (cI, 10000, .inl gf))] H := hP.sub [5, 6, 7, 8, 9, 0, 1, 2, 3, 4] rfl
        have hD : va_D A [(mx, .inr (11, [.int ml, .int mw, .ref ms, .int mgl, .int mhd, .int mre, .int mag, .int mkt, .int mho, .int mpc, .int msd2_37, .int mki, .ref mk, .ref ma, .ref mo, .ref mg, .ref mm, .ref mt, .int mdn, .int mun, .ref mn, .int atk, .ref me, .ref mq, .int msv, .ref mwo, .ref md, .ref mf, .ref mr])), (ma, .inl (cI, 40, .inl fa2_37)), (mo, .inl (cI, 81, .inl fo2_37)), (mg, .inl (cI, 81, .inl fr)), (mk, .inl (cI, 40, .inl fk)), (mn, .inl (cZ, 40, .inl a3)), (mt, .inl (cB, 172241, .inl gs_)), (mwo, .inl (cI, 10000, .inl aw)), (md, .inl (cI, 10000, .inl ad)), (mr, .inl (cI, 10000, .inl gf))] := hD.sub [5, 6, 7, 8, 9, 0, 1, 2, 3, 4] (by decide) rfl
        try dsimp only at hw_37
        obtain ⟨hr_, hfa, hco, hsd⟩ := hw_37
        refine lv_istore (lv' := [(4, .int r_37), (3, .int s_), (2, .int cn), (1, .int t_24), (0, .ref mx)]) hx hb dX11_solve_40 hl (by decide) rfl (fun ls hl => ?_)
        refine lv_aload_n hx hb dX11_solve_42 rfl (lv_at hl 4 rfl) ?_
        refine va_get (D := D) (ci := 11) (C := RX11) (T := TX11) (N := 29) hx hb hts iw_X11_solve_X11 hown hK hP 0 rfl rfl 25 (by decide) (hts (.fieldLink RX11 57 "KingTableModel" "worths" "[I") (kt_wp_X11_solve__X11_solve_r1 kt_wm2)) (fun _ h9 => h9) rfl dX11_solve_43 ?_
        refine lv_iload_n hx hb dX11_solve_46 rfl (lv_at hl 1 rfl) ?_
        refine lv_iload hx hb dX11_solve_47 (lv_at hl 0 rfl) ?_
        refine kt_join (σ := Int32) 60 6 (fun u => [(mx, .inr (11, [.int ml, .int mw, .ref ms, .int mgl, .int mhd, .int mre, .int mag, .int mkt, .int mho, .int mpc, .int msd2_37, .int mki, .ref mk, .ref ma, .ref mo, .ref mg, .ref mm, .ref mt, .int mdn, .int mun, .ref mn, .int atk, .ref me, .ref mq, .int msv, .ref mwo, .ref md, .ref mf, .ref mr])), (ma, .inl (cI, 40, .inl fa2_37)), (mo, .inl (cI, 81, .inl fo2_37)), (mg, .inl (cI, 81, .inl fr)), (mk, .inl (cI, 40, .inl fk)), (mn, .inl (cZ, 40, .inl a3)), (mt, .inl (cB, 172241, .inl gs_)), (mwo, .inl (cI, 10000, .inl aw)), (md, .inl (cI, 10000, .inl ad)), (mr, .inl (cI, 10000, .inl gf))]) (fun u => [(4, .int r_37), (3, .int s_), (2, .int cn), (1, .int t_24), (0, .ref mx)]) (fun u => [.int u, .int s_, .ref mwo]) (fun u => True) (D := D) (A := A) (H0 := s.heap) (fun u hI H locs hP hD hS ls hl => ?_) (fun j_60 => ?_)
        · obtain ⟨v1, rfl⟩ : ∃ z, z = u := ⟨_, rfl⟩
          have hP : va_P D vwCl [(mx, .inr (11, [.int ml, .int mw, .ref ms, .int mgl, .int mhd, .int mre, .int mag, .int mkt, .int mho, .int mpc, .int msd2_37, .int mki, .ref mk, .ref ma, .ref mo, .ref mg, .ref mm, .ref mt, .int mdn, .int mun, .ref mn, .int atk, .ref me, .ref mq, .int msv, .ref mwo, .ref md, .ref mf, .ref mr])), (ma, .inl (cI, 40, .inl fa2_37)), (mo, .inl (cI, 81, .inl fo2_37)), (mg, .inl (cI, 81, .inl fr)), (mk, .inl (cI, 40, .inl fk)), (mn, .inl (cZ, 40, .inl a3)), (mt, .inl (cB, 172241, .inl gs_)), (mwo, .inl (cI, 10000, .inl aw)), (md, .inl (cI, 10000, .inl ad)), (mr, .inl (cI, 10000, .inl gf))] H := hP
          have hD : va_D A [(mx, .inr (11, [.int ml, .int mw, .ref ms, .int mgl, .int mhd, .int mre, .int mag, .int mkt, .int mho, .int mpc, .int msd2_37, .int mki, .ref mk, .ref ma, .ref mo, .ref mg, .ref mm, .ref mt, .int mdn, .int mun, .ref mn, .int atk, .ref me, .ref mq, .int msv, .ref mwo, .ref md, .ref mf, .ref mr])), (ma, .inl (cI, 40, .inl fa2_37)), (mo, .inl (cI, 81, .inl fo2_37)), (mg, .inl (cI, 81, .inl fr)), (mk, .inl (cI, 40, .inl fk)), (mn, .inl (cZ, 40, .inl a3)), (mt, .inl (cB, 172241, .inl gs_)), (mwo, .inl (cI, 10000, .inl aw)), (md, .inl (cI, 10000, .inl ad)), (mr, .inl (cI, 10000, .inl gf))] := hD
          have hl : lv_has ls 6 [(4, .int r_37), (3, .int s_), (2, .int cn), (1, .int t_24), (0, .ref mx)] := hl
          have hi_10 : vp_in s_ 10000 := by exact kt_in (by omega) (by omega)
          refine va_iast hx hb hK hP hD hS 7 0 rfl rfl hi_10 dX11_solve_60 (fun H locs hP hD hS => ?_)
          have hP : va_P D vwCl [(mx, .inr (11, [.int ml, .int mw, .ref ms, .int mgl, .int mhd, .int mre, .int mag, .int mkt, .int mho, .int mpc, .int msd2_37, .int mki, .ref mk, .ref ma, .ref mo, .ref mg, .ref mm, .ref mt, .int mdn, .int mun, .ref mn, .int atk, .ref me, .ref mq, .int msv, .ref mwo, .ref md, .ref mf, .ref mr])), (ma, .inl (cI, 40, .inl fa2_37)), (mo, .inl (cI, 81, .inl fo2_37)), (mg, .inl (cI, 81, .inl fr)), (mk, .inl (cI, 40, .inl fk)), (mn, .inl (cZ, 40, .inl a3)), (mt, .inl (cB, 172241, .inl gs_)), (mwo, .inl (cI, 10000, .inl (upd aw s_.toNatClampNeg v1))), (md, .inl (cI, 10000, .inl ad)), (mr, .inl (cI, 10000, .inl gf))] H := hP
          have hD : va_D A [(mx, .inr (11, [.int ml, .int mw, .ref ms, .int mgl, .int mhd, .int mre, .int mag, .int mkt, .int mho, .int mpc, .int msd2_37, .int mki, .ref mk, .ref ma, .ref mo, .ref mg, .ref mm, .ref mt, .int mdn, .int mun, .ref mn, .int atk, .ref me, .ref mq, .int msv, .ref mwo, .ref md, .ref mf, .ref mr])), (ma, .inl (cI, 40, .inl fa2_37)), (mo, .inl (cI, 81, .inl fo2_37)), (mg, .inl (cI, 81, .inl fr)), (mk, .inl (cI, 40, .inl fk)), (mn, .inl (cZ, 40, .inl a3)), (mt, .inl (cB, 172241, .inl gs_)), (mwo, .inl (cI, 10000, .inl (upd aw s_.toNatClampNeg v1))), (md, .inl (cI, 10000, .inl ad)), (mr, .inl (cI, 10000, .inl gf))] := hD
          refine lv_aload_n hx hb dX11_solve_61 rfl (lv_at hl 4 rfl) ?_
          refine va_get (D := D) (ci := 11) (C := RX11) (T := TX11) (N := 29) hx hb hts iw_X11_solve_X11 hown hK hP 0 rfl rfl 26 (by decide) (hts (.fieldLink RX11 60 "KingTableModel" "deeps" "[I") (kt_wp_X11_solve__X11_solve_r1 kt_wm3)) (fun _ h9 => h9) rfl dX11_solve_62 ?_
          refine lv_iload_n hx hb dX11_solve_65 rfl (lv_at hl 1 rfl) ?_
          refine lv_iconst (v := 0) hx hb dX11_solve_66 (by decide) ?_
          have hi_11 : vp_in s_ 10000 := by exact kt_in (by omega) (by omega)
          refine va_iast hx hb hK hP hD hS 8 0 rfl rfl hi_11 dX11_solve_67 (fun H locs hP hD hS => ?_)
          have hP : va_P D vwCl [(mx, .inr (11, [.int ml, .int mw, .ref ms, .int mgl, .int mhd, .int mre, .int mag, .int mkt, .int mho, .int mpc, .int msd2_37, .int mki, .ref mk, .ref ma, .ref mo, .ref mg, .ref mm, .ref mt, .int mdn, .int mun, .ref mn, .int atk, .ref me, .ref mq, .int msv, .ref mwo, .ref md, .ref mf, .ref mr])), (ma, .inl (cI, 40, .inl fa2_37)), (mo, .inl (cI, 81, .inl fo2_37)), (mg, .inl (cI, 81, .inl fr)), (mk, .inl (cI, 40, .inl fk)), (mn, .inl (cZ, 40, .inl a3)), (mt, .inl (cB, 172241, .inl gs_)), (mwo, .inl (cI, 10000, .inl (upd aw s_.toNatClampNeg v1))), (md, .inl (cI, 10000, .inl (upd ad s_.toNatClampNeg 0))), (mr, .inl (cI, 10000, .inl gf))] H := hP
          have hD : va_D A [(mx, .inr (11, [.int ml, .int mw, .ref ms, .int mgl, .int mhd, .int mre, .int mag, .int mkt, .int mho, .int mpc, .int msd2_37, .int mki, .ref mk, .ref ma, .ref mo, .ref mg, .ref mm, .ref mt, .int mdn, .int mun, .ref mn, .int atk, .ref me, .ref mq, .int msv, .ref mwo, .ref md, .ref mf, .ref mr])), (ma, .inl (cI, 40, .inl fa2_37)), (mo, .inl (cI, 81, .inl fo2_37)), (mg, .inl (cI, 81, .inl fr)), (mk, .inl (cI, 40, .inl fk)), (mn, .inl (cZ, 40, .inl a3)), (mt, .inl (cB, 172241, .inl gs_)), (mwo, .inl (cI, 10000, .inl (upd aw s_.toNatClampNeg v1))), (md, .inl (cI, 10000, .inl (upd ad s_.toNatClampNeg 0))), (mr, .inl (cI, 10000, .inl gf))] := hD
          refine lv_iload hx hb dX11_solve_68 (lv_at hl 0 rfl) ?_
          refine kt_join (σ := Int32) 76 6 (fun u => [(mx, .inr (11, [.int ml, .int mw, .ref ms, .int mgl, .int mhd, .int mre, .int mag, .int mkt, .int mho, .int mpc, .int msd2_37, .int mki, .ref mk, .ref ma, .ref mo, .ref mg, .ref mm, .ref mt, .int mdn, .int mun, .ref mn, .int atk, .ref me, .ref mq, .int msv, .ref mwo, .ref md, .ref mf, .ref mr])), (ma, .inl (cI, 40, .inl fa2_37)), (mo, .inl (cI, 81, .inl fo2_37)), (mg, .inl (cI, 81, .inl fr)), (mk, .inl (cI, 40, .inl fk)), (mn, .inl (cZ, 40, .inl a3)), (mt, .inl (cB, 172241, .inl gs_)), (mwo, .inl (cI, 10000, .inl (upd aw s_.toNatClampNeg v1))), (md, .inl (cI, 10000, .inl (upd ad s_.toNatClampNeg 0))), (mr, .inl (cI, 10000, .inl gf))]) (fun u => [(4, .int r_37), (3, .int s_), (2, .int u), (1, .int t_24), (0, .ref mx)]) (fun u => []) (fun u => True) (D := D) (A := A) (H0 := s.heap) (fun u hI H locs hP hD hS ls hl => ?_) (fun j_76 => ?_)
          · obtain ⟨cu, rfl⟩ : ∃ z, z = u := ⟨_, rfl⟩
            have hP : va_P D vwCl [(mx, .inr (11, [.int ml, .int mw, .ref ms, .int mgl, .int mhd, .int mre, .int mag, .int mkt, .int mho, .int mpc, .int msd2_37, .int mki, .ref mk, .ref ma, .ref mo, .ref mg, .ref mm, .ref mt, .int mdn, .int mun, .ref mn, .int atk, .ref me, .ref mq, .int msv, .ref mwo, .ref md, .ref mf, .ref mr])), (ma, .inl (cI, 40, .inl fa2_37)), (mo, .inl (cI, 81, .inl fo2_37)), (mg, .inl (cI, 81, .inl fr)), (mk, .inl (cI, 40, .inl fk)), (mn, .inl (cZ, 40, .inl a3)), (mt, .inl (cB, 172241, .inl gs_)), (mwo, .inl (cI, 10000, .inl (upd aw s_.toNatClampNeg v1))), (md, .inl (cI, 10000, .inl (upd ad s_.toNatClampNeg 0))), (mr, .inl (cI, 10000, .inl gf))] H := hP
            have hD : va_D A [(mx, .inr (11, [.int ml, .int mw, .ref ms, .int mgl, .int mhd, .int mre, .int mag, .int mkt, .int mho, .int mpc, .int msd2_37, .int mki, .ref mk, .ref ma, .ref mo, .ref mg, .ref mm, .ref mt, .int mdn, .int mun, .ref mn, .int atk, .ref me, .ref mq, .int msv, .ref mwo, .ref md, .ref mf, .ref mr])), (ma, .inl (cI, 40, .inl fa2_37)), (mo, .inl (cI, 81, .inl fo2_37)), (mg, .inl (cI, 81, .inl fr)), (mk, .inl (cI, 40, .inl fk)), (mn, .inl (cZ, 40, .inl a3)), (mt, .inl (cB, 172241, .inl gs_)), (mwo, .inl (cI, 10000, .inl (upd aw s_.toNatClampNeg v1))), (md, .inl (cI, 10000, .inl (upd ad s_.toNatClampNeg 0))), (mr, .inl (cI, 10000, .inl gf))] := hD
            have hl : lv_has ls 6 [(4, .int r_37), (3, .int s_), (2, .int cu), (1, .int t_24), (0, .ref mx)] := hl
            obtain ⟨t_76, et_76⟩ : ∃ y : Int32, y = s_ + 1 := ⟨_, rfl⟩
            obtain ⟨k_76, hk_76, hm_76, hM_76⟩ := kt_addk et_76
            try simp only [kt_c0, kt_c1, kt_c2, kt_c3, kt_c4, kt_c8, kt_c9, kt_cm1, kt_c81, kt_c40, kt_c7, kt_c5, kt_c6, kt_c512, kt_c10, kt_c10000] at hk_76
            refine lv_iinc (v := t_76) (lv' := [(3, .int t_76), (4, .int r_37), (2, .int cu), (1, .int t_24), (0, .ref mx)]) hx hb dX11_solve_76 hl (k := 1) rfl (by rw [et_76]; rfl) (by decide) rfl (fun ls hl => ?_)
            refine lv_goto (tgt := 30) hx hb dX11_solve_79 (by decide) ?_
            exact ih_30 (t_76, cu, fa2_37, fo2_37, a3, atk, msd2_37, (upd aw s_.toNatClampNeg v1), (upd ad s_.toNatClampNeg 0)) (by show (0 ≤ t_76.toInt ∧ t_76.toInt ≤ t_24.toInt ∧ t_24.toInt < t_76.toInt + n_30) ∧ kt_r fa2_37 P_ (-1) (ml.toInt * mw.toInt - 1) ∧ kt_con fo2_37 fa2_37 P_ ∧ (0 ≤ msd2_37.toInt ∧ msd2_37.toInt ≤ 1); exact ⟨by omega, hfa, hco, hsd⟩) H _ hP hD hS ls (lv_sub hl [0, 2, 3, 4] rfl)
          refine lv_if_eq (tgt := 76) hx hb dX11_solve_70 (by decide) (fun c_70 => ?_) (fun c_70 => ?_)
          · have d_70 := c_70
            simp only [kt_lt, kt_le, kt_eq, kt_c0, kt_c1, kt_c2, kt_c3, kt_c4, kt_c8, kt_c9, kt_cm1, kt_c81, kt_c40, kt_c7, kt_c5, kt_c6, kt_c512, kt_c10, kt_c10000] at d_70
            exact j_76 cn (by trivial) H _ hP hD hS ls (lv_sub hl [0, 1, 2, 3, 4] rfl)
          · have d_70 := c_70
            simp only [kt_lt, kt_le, kt_eq, kt_c0, kt_c1, kt_c2, kt_c3, kt_c4, kt_c8, kt_c9, kt_cm1, kt_c81, kt_c40, kt_c7, kt_c5, kt_c6, kt_c512, kt_c10, kt_c10000] at d_70
            obtain ⟨t_73, et_73⟩ : ∃ y : Int32, y = cn + 1 := ⟨_, rfl⟩
            obtain ⟨k_73, hk_73, hm_73, hM_73⟩ := kt_addk et_73
            try simp only [kt_c0, kt_c1, kt_c2, kt_c3, kt_c4, kt_c8, kt_c9, kt_cm1, kt_c81, kt_c40, kt_c7, kt_c5, kt_c6, kt_c512, kt_c10, kt_c10000] at hk_73
            refine lv_iinc (v := t_73) (lv' := [(2, .int t_73), (4, .int r_37), (3, .int s_), (1, .int t_24), (0, .ref mx)]) hx hb dX11_solve_73 hl (k := 2) rfl (by rw [et_73]; rfl) (by decide) rfl (fun ls hl => ?_)
            exact j_76 t_73 (by trivial) H _ hP hD hS ls (lv_sub hl [1, 2, 0, 3, 4] rfl)
        refine lv_if_eq (tgt := 59) hx hb dX11_solve_49 (by decide) (fun c_49 => ?_) (fun c_49 => ?_)
        · have d_49 := c_49
          simp only [kt_lt, kt_le, kt_eq, kt_c0, kt_c1, kt_c2, kt_c3, kt_c4, kt_c8, kt_c9, kt_cm1, kt_c81, kt_c40, kt_c7, kt_c5, kt_c6, kt_c512, kt_c10, kt_c10000] at d_49
          refine lv_iconst (v := 4) hx hb dX11_solve_59 (by decide) ?_
          exact j_60 (4 : Int32) (by trivial) H _ hP hD hS ls (lv_sub hl [0, 1, 2, 3, 4] rfl)
        · have d_49 := c_49
          simp only [kt_lt, kt_le, kt_eq, kt_c0, kt_c1, kt_c2, kt_c3, kt_c4, kt_c8, kt_c9, kt_cm1, kt_c81, kt_c40, kt_c7, kt_c5, kt_c6, kt_c512, kt_c10, kt_c10000] at d_49
          refine lv_aload_n hx hb dX11_solve_52 rfl (lv_at hl 4 rfl) ?_
          refine kt_pi (wc := [(mx, .inr (11, [.int ml, .int mw, .ref ms, .int mgl, .int mhd, .int mre, .int mag, .int mkt, .int mho, .int mpc, .int msd2_37, .int mki, .ref mk, .ref ma, .ref mo, .ref mg, .ref mm, .ref mt, .int mdn, .int mun, .ref mn, .int atk, .ref me, .ref mq, .int msv, .ref mwo, .ref md, .ref mf, .ref mr])), (ma, .inl (cI, 40, .inl fa2_37)), (mo, .inl (cI, 81, .inl fo2_37)), (mg, .inl (cI, 81, .inl fr)), (mk, .inl (cI, 40, .inl fk))]) [0, 1, 2, 3, 4] hP hD hS hA rfl (by decide) (fun hPc hDc => va_runV (As := []) (rest := [.int s_, .ref mwo]) ⟨hx, hb, hml, hown, hts⟩ (c_X11_endOf l D cI cZ cB H.size mx ms mk ma mo mg mm mt mn me mq mwo md mf mr ml mw mgl mhd mre mag mkt mho mpc msd2_37 mki mdn mun atk msv P_ fa2_37 fo2_37 fr fk hml_ hmw hpc hfa (hco.r (by omega)) hki hsd) (cwV 0 hts gX11_solve_X11_endOf rfl rfl rfl (by decide +kernel) ⟨Nat.le_of_ble_eq_true rfl, Nat.le_of_ble_eq_true rfl⟩) (kt_preV hN hK hPc hDc 0 (ci := 11) (q := (RX11, TX11, 29)) rfl rfl) rfl rfl hl.1 rfl (lv_room (Nat.le_of_ble_eq_true rfl)) dX11_solve_53 ⟨Nat.le_of_ble_eq_true rfl, Nat.le_of_ble_eq_true rfl⟩) (fun r_53 _ H locs hw_53 hP hS => ?_)
          refine lv_goto (tgt := 60) hx hb dX11_solve_56 (by decide) ?_
          exact j_60 r_53 (by trivial) H _ hP hD hS ls (lv_sub hl [0, 1, 2, 3, 4] rfl)
    · have d_15 := c_15
      simp only [kt_lt, kt_le, kt_eq, kt_c0, kt_c1, kt_c2, kt_c3, kt_c4, kt_c8, kt_c9, kt_cm1, kt_c81, kt_c40, kt_c7, kt_c5, kt_c6, kt_c512, kt_c10, kt_c10000] at d_15
      refine lv_iconst (v := (-1)) hx hb dX11_solve_18 (by decide) ?_
      exact kt_ri (mtk, msd, msv, fa, fo, ft, gw, gd, gf) hx hb hr hlk hS dX11_solve_19 hP hD (by show (¬ mho.toInt = 0 → kt_PI ml mw mpc msd mki mdn mun mkt mhd fr fk fa fo mv gs_ P_ ∧ kt_cut P_ fa = kt_cut P_ fa ∧ msd = msd ∧ kt_PD ml mw msd mki mdn mun mkt mhd mho mtk mgl mre mag fr fk mv gs_ ft P_) ∧ (¬ msv.toInt = 0 → ¬ mho.toInt = 0 ∧ 2 * kt_pw (ml.toInt * mw.toInt + 1) P_ ≤ 10000); first | exact ⟨fun h => ⟨hpi h, rfl, rfl, hpd h⟩, hsv⟩ | exact ⟨fun _ => ⟨hpi3, hct3, hms3, hpd3⟩, fun _ => ⟨by omega, hst_⟩⟩)

set_option maxHeartbeats 4000000 in
set_option maxRecDepth 100000 in
theorem c_X11_bestX (l : Launch) (D : va_G) (cI cZ cB : ClassId) (sz : Nat) (mx : Nat) (ms : Nat) (mk : Nat) (ma : Nat) (mo : Nat) (mg : Nat) (mm : Nat) (mt : Nat) (mn : Nat) (me : Nat) (mq : Nat) (mwo : Nat) (md : Nat) (mf : Nat) (mr : Nat) (ml : Int32) (mw : Int32) (mgl : Int32) (mhd : Int32) (mre : Int32) (mag : Int32) (mkt : Int32) (mho : Int32) (mpc : Int32) (msd : Int32) (mki : Int32) (mdn : Int32) (mun : Int32) (mtk : Int32) (msv : Int32) (P_ : Nat) (fa : Nat → Int32) (fo : Nat → Int32) (fr : Nat → Int32) (fk : Nat → Int32) (ft : Nat → Int32) (gs_ : Nat → Int32) (mv : Nat → Int32) (gw : Nat → Int32) (gd : Nat → Int32) (hml_ : 2 ≤ ml.toInt ∧ ml.toInt ≤ 9) (hmw : 2 ≤ mw.toInt ∧ mw.toInt ≤ 9) (hpi : ¬ mho.toInt = 0 → kt_PI ml mw mpc msd mki mdn mun mkt mhd fr fk fa fo mv gs_ P_) (hho : 0 ≤ mho.toInt ∧ mho.toInt ≤ 4) (hsv : ¬ msv.toInt = 0 → ¬ mho.toInt = 0 ∧ 2 * kt_pw (ml.toInt * mw.toInt + 1) P_ ≤ 10000) (hbd : mdn.toInt + mun.toInt ≤ 3900) (hpd : ¬ mho.toInt = 0 → kt_PD ml mw msd mki mdn mun mkt mhd mho mtk mgl mre mag fr fk mv gs_ ft P_) : kt_Mi l yX11_best wsX11_best { frames := 5, cells := 0, slots := 0, locals := 118 } D (kt_ty cI cZ cB) [.ref mx] sz [(mx, .inr (11, [.int ml, .int mw, .ref ms, .int mgl, .int mhd, .int mre, .int mag, .int mkt, .int mho, .int mpc, .int msd, .int mki, .ref mk, .ref ma, .ref mo, .ref mg, .ref mm, .ref mt, .int mdn, .int mun, .ref mn, .int mtk, .ref me, .ref mq, .int msv, .ref mwo, .ref md, .ref mf, .ref mr])), (ma, .inl (cI, 40, .inl fa)), (mo, .inl (cI, 81, .inl fo)), (mg, .inl (cI, 81, .inl fr)), (mk, .inl (cI, 40, .inl fk)), (mn, .inl (cZ, 40, .inl ft)), (mt, .inl (cB, 172241, .inl gs_)), (mwo, .inl (cI, 10000, .inl gw)), (md, .inl (cI, 10000, .inl gd))] (fun (r : Int32) (u : Int32 × Int32 × (Nat → Int32) × (Nat → Int32) × (Nat → Int32)) => ¬ mho.toInt = 0 → kt_PI ml mw mpc u.2.1 mki mdn mun mkt mhd fr fk u.2.2.1 u.2.2.2.1 mv gs_ P_ ∧ kt_cut P_ u.2.2.1 = kt_cut P_ fa ∧ u.2.1 = msd ∧ kt_PD ml mw u.2.1 mki mdn mun mkt mhd mho u.1 mgl mre mag fr fk mv gs_ u.2.2.2.2 P_) (fun (u : Int32 × Int32 × (Nat → Int32) × (Nat → Int32) × (Nat → Int32)) => [(mx, .inr (11, [.int ml, .int mw, .ref ms, .int mgl, .int mhd, .int mre, .int mag, .int mkt, .int mho, .int mpc, .int u.2.1, .int mki, .ref mk, .ref ma, .ref mo, .ref mg, .ref mm, .ref mt, .int mdn, .int mun, .ref mn, .int u.1, .ref me, .ref mq, .int msv, .ref mwo, .ref md, .ref mf, .ref mr])), (ma, .inl (cI, 40, .inl u.2.2.1)), (mo, .inl (cI, 81, .inl u.2.2.2.1)), (mg, .inl (cI, 81, .inl fr)), (mk, .inl (cI, 40, .inl fk)), (mn, .inl (cZ, 40, .inl u.2.2.2.2)), (mt, .inl (cB, 172241, .inl gs_)), (mwo, .inl (cI, 10000, .inl gw)), (md, .inl (cI, 10000, .inl gd))]) 0 0 := by
  refine kt_Mi.of (cc := cX11_best) (maxL := 9) (ret := some .int) (by decide) rfl (Nat.le_of_ble_eq_true rfl) ?_
  intro p e s m below meth c A ls H hAt hP hD hS hl
  obtain ⟨hx, hb, hr, hml, hown, hts, hN, hK, hlk, hnm, hA⟩ := hAt
  have hl : lv_has ls 9 [(0, .ref mx)] := hl
  have hown : s.vm.findClass RX11 = some m.cls := hown
  have hsb := kt_mulb hml_ hmw
  refine lv_aload_n hx hb dX11_best_0 rfl (lv_at hl 0 rfl) ?_
  refine va_get (D := D) (ci := 11) (C := RX11) (T := TX11) (N := 29) hx hb hts iw_X11_best_X11 hown hK hP 0 rfl rfl 24 (by decide) (hts (.fieldLink RX11 76 "KingTableModel" "solved" "Z") (kt_wp_X11_best__X11_best_r1 kt_wm0)) (fun _ h9 => h9) rfl dX11_best_1 ?_
  refine lv_if_ne (tgt := 9) hx hb dX11_best_4 (by decide) (fun c_4 => ?_) (fun c_4 => ?_)
  · have d_4 := c_4
    simp only [kt_lt, kt_le, kt_eq, kt_c0, kt_c1, kt_c2, kt_c3, kt_c4, kt_c8, kt_c9, kt_cm1, kt_c81, kt_c40, kt_c7, kt_c5, kt_c6, kt_c512, kt_c10, kt_c10000] at d_4
    obtain ⟨hm0, hst_⟩ := hsv (by omega)
    have hpl := hpi hm0
    have hpl0 := hpl
    obtain ⟨⟨hpc, hki, hsd, hdn0, hun0⟩, ⟨hfa, hco, hcc⟩, hinj, hrows, hcut, hlgl⟩ := hpl
    have hpw1 := kt_pw_1 (B := (ml.toInt * mw.toInt + 1)) (by have := kt_mulb hml_ hmw; omega) P_
    have hpd0 := hpd hm0
    refine lv_aload_n hx hb dX11_best_9 rfl (lv_at hl 0 rfl) ?_
    refine kt_pi (wc := [(mx, .inr (11, [.int ml, .int mw, .ref ms, .int mgl, .int mhd, .int mre, .int mag, .int mkt, .int mho, .int mpc, .int msd, .int mki, .ref mk, .ref ma, .ref mo, .ref mg, .ref mm, .ref mt, .int mdn, .int mun, .ref mn, .int mtk, .ref me, .ref mq, .int msv, .ref mwo, .ref md, .ref mf, .ref mr])), (ma, .inl (cI, 40, .inl fa))]) [0, 1] hP hD hS hA rfl (by decide) (fun hPc hDc => va_runV (As := []) (rest := []) ⟨hx, hb, hml, hown, hts⟩ (c_X11_number l D cI cZ cB H.size mx ms mk ma mo mg mm mt mn me mq mwo md mf mr ml mw mgl mhd mre mag mkt mho mpc msd mki mdn mun mtk msv P_ fa hml_ hmw hpc hfa hst_ hsd) (cwV 0 hts gX11_best_X11_number rfl rfl rfl (by decide +kernel) ⟨Nat.le_of_ble_eq_true rfl, Nat.le_of_ble_eq_true rfl⟩) (kt_preV hN hK hPc hDc 0 (ci := 11) (q := (RX11, TX11, 29)) rfl rfl) rfl rfl hl.1 rfl (lv_room (Nat.le_of_ble_eq_true rfl)) dX11_best_10 ⟨Nat.le_of_ble_eq_true rfl, Nat.le_of_ble_eq_true rfl⟩) (fun r_10 _ H locs hw_10 hP hS => ?_)
    have hnm := hw_10
    refine lv_istore_n (lv' := [(1, .int r_10), (0, .ref mx)]) hx hb dX11_best_13 rfl hl (by decide) rfl (fun ls hl => ?_)
    refine lv_aload_n hx hb dX11_best_14 rfl (lv_at hl 1 rfl) ?_
    refine kt_pi (wc := [(mx, .inr (11, [.int ml, .int mw, .ref ms, .int mgl, .int mhd, .int mre, .int mag, .int mkt, .int mho, .int mpc, .int msd, .int mki, .ref mk, .ref ma, .ref mo, .ref mg, .ref mm, .ref mt, .int mdn, .int mun, .ref mn, .int mtk, .ref me, .ref mq, .int msv, .ref mwo, .ref md, .ref mf, .ref mr])), (ma, .inl (cI, 40, .inl fa)), (mo, .inl (cI, 81, .inl fo)), (mg, .inl (cI, 81, .inl fr)), (mk, .inl (cI, 40, .inl fk))]) [0, 1, 2, 3, 4] hP hD hS hA rfl (by decide) (fun hPc hDc => va_runV (As := []) (rest := []) ⟨hx, hb, hml, hown, hts⟩ (c_X11_endOf l D cI cZ cB H.size mx ms mk ma mo mg mm mt mn me mq mwo md mf mr ml mw mgl mhd mre mag mkt mho mpc msd mki mdn mun mtk msv P_ fa fo fr fk hml_ hmw hpc hfa (hco.r (by omega)) hki hsd) (cwV 0 hts gX11_best_X11_endOf rfl rfl rfl (by decide +kernel) ⟨Nat.le_of_ble_eq_true rfl, Nat.le_of_ble_eq_true rfl⟩) (kt_preV hN hK hPc hDc 0 (ci := 11) (q := (RX11, TX11, 29)) rfl rfl) rfl rfl hl.1 rfl (lv_room (Nat.le_of_ble_eq_true rfl)) dX11_best_15 ⟨Nat.le_of_ble_eq_true rfl, Nat.le_of_ble_eq_true rfl⟩) (fun r_15 _ H locs hw_15 hP hS => ?_)
    refine lv_iconst (v := 3) hx hb dX11_best_18 (by decide) ?_
    refine kt_join (σ := Int32) 27 9 (fun u => [(mx, .inr (11, [.int ml, .int mw, .ref ms, .int mgl, .int mhd, .int mre, .int mag, .int mkt, .int mho, .int mpc, .int msd, .int mki, .ref mk, .ref ma, .ref mo, .ref mg, .ref mm, .ref mt, .int mdn, .int mun, .ref mn, .int mtk, .ref me, .ref mq, .int msv, .ref mwo, .ref md, .ref mf, .ref mr])), (ma, .inl (cI, 40, .inl fa)), (mo, .inl (cI, 81, .inl fo)), (mg, .inl (cI, 81, .inl fr)), (mk, .inl (cI, 40, .inl fk)), (mn, .inl (cZ, 40, .inl ft)), (mt, .inl (cB, 172241, .inl gs_)), (mwo, .inl (cI, 10000, .inl gw)), (md, .inl (cI, 10000, .inl gd))]) (fun u => [(1, .int r_10), (0, .ref mx)]) (fun u => [.int u]) (fun u => True) (D := D) (A := A) (H0 := s.heap) (fun u hI H locs hP hD hS ls hl => ?_) (fun j_27 => ?_)
    · obtain ⟨en, rfl⟩ : ∃ z, z = u := ⟨_, rfl⟩
      have hP : va_P D vwCl [(mx, .inr (11, [.int ml, .int mw, .ref ms, .int mgl, .int mhd, .int mre, .int mag, .int mkt, .int mho, .int mpc, .int msd, .int mki, .ref mk, .ref ma, .ref mo, .ref mg, .ref mm, .ref mt, .int mdn, .int mun, .ref mn, .int mtk, .ref me, .ref mq, .int msv, .ref mwo, .ref md, .ref mf, .ref mr])), (ma, .inl (cI, 40, .inl fa)), (mo, .inl (cI, 81, .inl fo)), (mg, .inl (cI, 81, .inl fr)), (mk, .inl (cI, 40, .inl fk)), (mn, .inl (cZ, 40, .inl ft)), (mt, .inl (cB, 172241, .inl gs_)), (mwo, .inl (cI, 10000, .inl gw)), (md, .inl (cI, 10000, .inl gd))] H := hP
      have hD : va_D A [(mx, .inr (11, [.int ml, .int mw, .ref ms, .int mgl, .int mhd, .int mre, .int mag, .int mkt, .int mho, .int mpc, .int msd, .int mki, .ref mk, .ref ma, .ref mo, .ref mg, .ref mm, .ref mt, .int mdn, .int mun, .ref mn, .int mtk, .ref me, .ref mq, .int msv, .ref mwo, .ref md, .ref mf, .ref mr])), (ma, .inl (cI, 40, .inl fa)), (mo, .inl (cI, 81, .inl fo)), (mg, .inl (cI, 81, .inl fr)), (mk, .inl (cI, 40, .inl fk)), (mn, .inl (cZ, 40, .inl ft)), (mt, .inl (cB, 172241, .inl gs_)), (mwo, .inl (cI, 10000, .inl gw)), (md, .inl (cI, 10000, .inl gd))] := hD
      have hl : lv_has ls 9 [(1, .int r_10), (0, .ref mx)] := hl
      refine lv_istore_n (lv' := [(2, .int en), (1, .int r_10), (0, .ref mx)]) hx hb dX11_best_27 rfl hl (by decide) rfl (fun ls hl => ?_)
      refine lv_iconst (v := (-1)) hx hb dX11_best_28 (by decide) ?_
      refine lv_istore_n (lv' := [(3, .int (-1)), (2, .int en), (1, .int r_10), (0, .ref mx)]) hx hb dX11_best_29 rfl hl (by decide) rfl (fun ls hl => ?_)
      refine lv_iconst (v := 0) hx hb dX11_best_30 (by decide) ?_
      refine lv_istore (lv' := [(4, .int 0), (3, .int (-1)), (2, .int en), (1, .int r_10), (0, .ref mx)]) hx hb dX11_best_31 hl (by decide) rfl (fun ls hl => ?_)
      refine lv_iload_n hx hb dX11_best_33 rfl (lv_at hl 3 rfl) ?_
      refine lv_iconst (v := 2) hx hb dX11_best_34 (by decide) ?_
      refine lv_irem hx hb dX11_best_35 (by decide) ?_
      refine lv_topi (fun t_35 et_35 => ?_)
      have hk_35 := kt_remk et_35 (by omega) (by decide)
      rw [show (2 : Int32).toInt = 2 by decide] at hk_35
      refine lv_istore (lv' := [(5, .int t_35), (4, .int 0), (3, .int (-1)), (2, .int en), (1, .int r_10), (0, .ref mx)]) hx hb dX11_best_36 hl (by decide) rfl (fun ls hl => ?_)
      refine lv_iconst (v := 0) hx hb dX11_best_38 (by decide) ?_
      refine lv_istore (lv' := [(6, .int 0), (5, .int t_35), (4, .int 0), (3, .int (-1)), (2, .int en), (1, .int r_10), (0, .ref mx)]) hx hb dX11_best_39 hl (by decide) rfl (fun ls hl => ?_)
      refine kt_loop (σ := Int32 × Int32 × Int32 × (Nat → Int32) × (Nat → Int32) × (Nat → Int32) × Int32 × Int32) 41 9 (fun u => [(mx, .inr (11, [.int ml, .int mw, .ref ms, .int mgl, .int mhd, .int mre, .int mag, .int mkt, .int mho, .int mpc, .int u.2.2.2.2.2.2.2, .int mki, .ref mk, .ref ma, .ref mo, .ref mg, .ref mm, .ref mt, .int mdn, .int mun, .ref mn, .int u.2.2.2.2.2.2.1, .ref me, .ref mq, .int msv, .ref mwo, .ref md, .ref mf, .ref mr])), (ma, .inl (cI, 40, .inl u.2.2.2.1)), (mo, .inl (cI, 81, .inl u.2.2.2.2.1)), (mg, .inl (cI, 81, .inl fr)), (mk, .inl (cI, 40, .inl fk)), (mn, .inl (cZ, 40, .inl u.2.2.2.2.2.1)), (mt, .inl (cB, 172241, .inl gs_)), (mwo, .inl (cI, 10000, .inl gw)), (md, .inl (cI, 10000, .inl gd))]) (fun u => [(6, .int u.1), (5, .int t_35), (4, .int u.2.2.1), (3, .int u.2.1), (2, .int en), (1, .int r_10), (0, .ref mx)]) (fun n u => (0 ≤ u.1.toInt ∧ u.1.toInt ≤ 1280 ∧ 1280 < u.1.toInt + n) ∧ kt_r u.2.2.2.1 P_ (-1) (ml.toInt * mw.toInt - 1) ∧ kt_con u.2.2.2.2.1 u.2.2.2.1 P_ ∧ (0 ≤ u.2.2.2.2.2.2.2.toInt ∧ u.2.2.2.2.2.2.2.toInt ≤ 1)) (fun u h => by omega) (fun n_41 ih_41 u hI H locs hP hD hS ls hl => ?_) (1281) ((0 : Int32), (-1 : Int32), (0 : Int32), fa, fo, ft, mtk, msd) (by show (0 ≤ (0 : Int32).toInt ∧ (0 : Int32).toInt ≤ 1280 ∧ 1280 < (0 : Int32).toInt + 1281) ∧ kt_r fa P_ (-1) (ml.toInt * mw.toInt - 1) ∧ kt_con fo fa P_ ∧ (0 ≤ msd.toInt ∧ msd.toInt ≤ 1); exact ⟨by decide, hfa, hco, hsd⟩) hP hD hS (lv_sub hl [0, 1, 2, 3, 4, 5, 6] rfl)
      obtain ⟨mv_, bs, bd, a1, a2, a3, atk, asd⟩ := u
      have hP : va_P D vwCl [(mx, .inr (11, [.int ml, .int mw, .ref ms, .int mgl, .int mhd, .int mre, .int mag, .int mkt, .int mho, .int mpc, .int asd, .int mki, .ref mk, .ref ma, .ref mo, .ref mg, .ref mm, .ref mt, .int mdn, .int mun, .ref mn, .int atk, .ref me, .ref mq, .int msv, .ref mwo, .ref md, .ref mf, .ref mr])), (ma, .inl (cI, 40, .inl a1)), (mo, .inl (cI, 81, .inl a2)), (mg, .inl (cI, 81, .inl fr)), (mk, .inl (cI, 40, .inl fk)), (mn, .inl (cZ, 40, .inl a3)), (mt, .inl (cB, 172241, .inl gs_)), (mwo, .inl (cI, 10000, .inl gw)), (md, .inl (cI, 10000, .inl gd))] H := hP
      have hD : va_D A [(mx, .inr (11, [.int ml, .int mw, .ref ms, .int mgl, .int mhd, .int mre, .int mag, .int mkt, .int mho, .int mpc, .int asd, .int mki, .ref mk, .ref ma, .ref mo, .ref mg, .ref mm, .ref mt, .int mdn, .int mun, .ref mn, .int atk, .ref me, .ref mq, .int msv, .ref mwo, .ref md, .ref mf, .ref mr])), (ma, .inl (cI, 40, .inl a1)), (mo, .inl (cI, 81, .inl a2)), (mg, .inl (cI, 81, .inl fr)), (mk, .inl (cI, 40, .inl fk)), (mn, .inl (cZ, 40, .inl a3)), (mt, .inl (cB, 172241, .inl gs_)), (mwo, .inl (cI, 10000, .inl gw)), (md, .inl (cI, 10000, .inl gd))] := hD
      have hl : lv_has ls 9 [(6, .int mv_), (5, .int t_35), (4, .int bd), (3, .int bs), (2, .int en), (1, .int r_10), (0, .ref mx)] := hl
      have hI : (0 ≤ mv_.toInt ∧ mv_.toInt ≤ 1280 ∧ 1280 < mv_.toInt + (n_41 + 1)) ∧ kt_r a1 P_ (-1) (ml.toInt * mw.toInt - 1) ∧ kt_con a2 a1 P_ ∧ (0 ≤ asd.toInt ∧ asd.toInt ≤ 1) := hI
      obtain ⟨hmb, hfa, hco, hsd⟩ := hI
      refine lv_iload hx hb dX11_best_41 (lv_at hl 0 rfl) ?_
      refine lv_bipush (v := 32) hx hb dX11_best_43 (by decide) ?_
      refine lv_aload_n hx hb dX11_best_45 rfl (lv_at hl 6 rfl) ?_
      refine va_get (D := D) (ci := 11) (C := RX11) (T := TX11) (N := 29) hx hb hts iw_X11_best_X11 hown hK hP 0 rfl rfl 9 (by decide) (hts (.fieldLink RX11 103 "KingTableModel" "pieces" "I") (kt_wp_X11_best__X11_best_r1 kt_wm1)) (fun _ h9 => h9) rfl dX11_best_46 ?_
      refine lv_imul hx hb dX11_best_49 ?_
      refine lv_topi (fun t_49 et_49 => ?_)
      obtain ⟨k_49, hk_49, hm_49, hM_49⟩ := kt_mulk (C := 32) (et_49.trans (Int32.mul_comm _ _)) (by decide)
      try simp only [kt_c0, kt_c1, kt_c2, kt_c3, kt_c4, kt_c8, kt_c9, kt_cm1, kt_c81, kt_c40, kt_c7, kt_c5, kt_c6, kt_c512, kt_c10, kt_c10000] at hk_49
      refine lv_icmp_ge (tgt := 177) hx hb dX11_best_50 (by decide) (fun c_50 => ?_) (fun c_50 => ?_)
      · have d_50 := c_50
        simp only [kt_lt, kt_le, kt_eq, kt_c0, kt_c1, kt_c2, kt_c3, kt_c4, kt_c8, kt_c9, kt_cm1, kt_c81, kt_c40, kt_c7, kt_c5, kt_c6, kt_c512, kt_c10, kt_c10000] at d_50
        refine lv_aload_n hx hb dX11_best_177 rfl (lv_at hl 6 rfl) ?_
        have hrj := hpl0.inj (n := mdn.toInt.toNat) (by omega)
        have hrd := (hrows mdn.toInt.toNat (by omega)).1
        refine lv_aload_n hx hb dX11_best_178 rfl (lv_at hl 6 rfl) ?_
        refine va_get (D := D) (ci := 11) (C := RX11) (T := TX11) (N := 29) hx hb hts iw_X11_best_X11 hown hK hP 0 rfl rfl 18 (by decide) (hts (.fieldLink RX11 138 "KingTableModel" "done" "I") (kt_wp_X11_best__X11_best_r1 kt_wm4)) (fun _ h9 => h9) rfl dX11_best_179 ?_
        refine kt_bv (wc := [(mx, .inr (11, [.int ml, .int mw, .ref ms, .int mgl, .int mhd, .int mre, .int mag, .int mkt, .int mho, .int mpc, .int asd, .int mki, .ref mk, .ref ma, .ref mo, .ref mg, .ref mm, .ref mt, .int mdn, .int mun, .ref mn, .int atk, .ref me, .ref mq, .int msv, .ref mwo, .ref md, .ref mf, .ref mr])), (ma, .inl (cI, 40, .inl a1)), (mo, .inl (cI, 81, .inl a2)), (mt, .inl (cB, 172241, .inl gs_))]) (wr := [(mg, .inl (cI, 81, .inl fr)), (mk, .inl (cI, 40, .inl fk)), (mn, .inl (cZ, 40, .inl a3)), (mwo, .inl (cI, 10000, .inl gw)), (md, .inl (cI, 10000, .inl gd))]) [0, 1, 2, 6] [3, 4, 5, 7, 8] hP hD hS hA rfl rfl (by decide) (by decide) (by decide) (fun hPc hDc => va_runV (As := [.int mdn]) (rest := []) ⟨hx, hb, hml, hown, hts⟩ (c_X11_readE l D cI cZ cB H.size mx ms mk ma mo mg mm mt mn me mq mwo md mf mr ml mw mgl mhd mre mag mkt mho mpc asd mki mdn mun atk msv P_ a1 a2 gs_ mdn hml_ hmw hpc (by omega) hrd hrj) (cwV 1 hts gX11_best_X11_read rfl rfl rfl (by decide +kernel) ⟨Nat.le_of_ble_eq_true rfl, Nat.le_of_ble_eq_true rfl⟩) (kt_preV hN hK hPc hDc 0 (ci := 11) (q := (RX11, TX11, 29)) rfl rfl) rfl rfl hl.1 rfl (lv_room (Nat.le_of_ble_eq_true rfl)) dX11_best_182 ⟨Nat.le_of_ble_eq_true rfl, Nat.le_of_ble_eq_true rfl⟩) (fun u_ H locs hw_182 hP hD hS => ?_)
        obtain ⟨fa2_182, fo2_182, msd2_182⟩ := u_
        have hP : va_P D vwCl [(mx, .inr (11, [.int ml, .int mw, .ref ms, .int mgl, .int mhd, .int mre, .int mag, .int mkt, .int mho, .int mpc, .int msd2_182, .int mki, .ref mk, .ref ma, .ref mo, .ref mg, .ref mm, .ref mt, .int mdn, .int mun, .ref mn, .int atk, .ref me, .ref mq, .int msv, .ref mwo, .ref md, .ref mf, .ref mr])), (ma, .inl (cI, 40, .inl fa2_182)), (mo, .inl (cI, 81, .inl fo2_182)), (mg, .inl (cI, 81, .inl fr)), (mk, .inl (cI, 40, .inl fk)), (mn, .inl (cZ, 40, .inl a3)), (mt, .inl (cB, 172241, .inl gs_)), (mwo, .inl (cI, 10000, .inl gw)), (md, .inl (cI, 10000, .inl gd))] H := hP.sub [5, 6, 7, 0, 1, 2, 8, 3, 4] rfl
        have hD : va_D A [(mx, .inr (11, [.int ml, .int mw, .ref ms, .int mgl, .int mhd, .int mre, .int mag, .int mkt, .int mho, .int mpc, .int msd2_182, .int mki, .ref mk, .ref ma, .ref mo, .ref mg, .ref mm, .ref mt, .int mdn, .int mun, .ref mn, .int atk, .ref me, .ref mq, .int msv, .ref mwo, .ref md, .ref mf, .ref mr])), (ma, .inl (cI, 40, .inl fa2_182)), (mo, .inl (cI, 81, .inl fo2_182)), (mg, .inl (cI, 81, .inl fr)), (mk, .inl (cI, 40, .inl fk)), (mn, .inl (cZ, 40, .inl a3)), (mt, .inl (cB, 172241, .inl gs_)), (mwo, .inl (cI, 10000, .inl gw)), (md, .inl (cI, 10000, .inl gd))] := hD.sub [5, 6, 7, 0, 1, 2, 8, 3, 4] (by decide) rfl
        try dsimp only at hw_182
        obtain ⟨hfc3, hsd3, hrd3, hrs3⟩ := hw_182
        have hct3 : kt_cut P_ fa2_182 = kt_cut P_ fa := by
          rw [hcut, ← (hrows mdn.toInt.toNat (by omega)).2]
          exact kt_cut_eq (fun j hj => hrd3 j hj)
        have hpi3 := hpl0.rows (by omega) (fun _ _ => rfl) hsd3 hfc3 hct3
        refine lv_aload_n hx hb dX11_best_185 rfl (lv_at hl 6 rfl) ?_
        refine kt_bv (wc := [(mx, .inr (11, [.int ml, .int mw, .ref ms, .int mgl, .int mhd, .int mre, .int mag, .int mkt, .int mho, .int mpc, .int msd2_182, .int mki, .ref mk, .ref ma, .ref mo, .ref mg, .ref mm, .ref mt, .int mdn, .int mun, .ref mn, .int atk, .ref me, .ref mq, .int msv, .ref mwo, .ref md, .ref mf, .ref mr])), (mt, .inl (cB, 172241, .inl gs_)), (mn, .inl (cZ, 40, .inl a3))]) (wr := [(ma, .inl (cI, 40, .inl fa2_182)), (mo, .inl (cI, 81, .inl fo2_182)), (mg, .inl (cI, 81, .inl fr)), (mk, .inl (cI, 40, .inl fk)), (mwo, .inl (cI, 10000, .inl gw)), (md, .inl (cI, 10000, .inl gd))]) [0, 6, 5] [1, 2, 3, 4, 7, 8] hP hD hS hA rfl rfl (by decide) (by decide) (by decide) (fun hPc hDc => va_runV (As := []) (rest := []) ⟨hx, hb, hml, hown, hts⟩ (c_X11_lookAgainX l D cI cZ cB H.size mx ms mk ma mo mg mm mt mn me mq mwo md mf mr ml mw mgl mhd mre mag mkt mho mpc msd2_182 mki mdn mun atk msv P_ gs_ a3 hpc (by omega)) (cwV 0 hts gX11_best_X11_lookAgain rfl rfl rfl (by decide +kernel) ⟨Nat.le_of_ble_eq_true rfl, Nat.le_of_ble_eq_true rfl⟩) (kt_preV hN hK hPc hDc 0 (ci := 11) (q := (RX11, TX11, 29)) rfl rfl) rfl rfl hl.1 rfl (lv_room (Nat.le_of_ble_eq_true rfl)) dX11_best_186 ⟨Nat.le_of_ble_eq_true rfl, Nat.le_of_ble_eq_true rfl⟩) (fun u_ H locs hw_186 hP hD hS => ?_)
        obtain ⟨mtk2_186, ft2_186⟩ := u_
        have hP : va_P D vwCl [(mx, .inr (11, [.int ml, .int mw, .ref ms, .int mgl, .int mhd, .int mre, .int mag, .int mkt, .int mho, .int mpc, .int msd2_182, .int mki, .ref mk, .ref ma, .ref mo, .ref mg, .ref mm, .ref mt, .int mdn, .int mun, .ref mn, .int mtk2_186, .ref me, .ref mq, .int msv, .ref mwo, .ref md, .ref mf, .ref mr])), (ma, .inl (cI, 40, .inl fa2_182)), (mo, .inl (cI, 81, .inl fo2_182)), (mg, .inl (cI, 81, .inl fr)), (mk, .inl (cI, 40, .inl fk)), (mn, .inl (cZ, 40, .inl ft2_186)), (mt, .inl (cB, 172241, .inl gs_)), (mwo, .inl (cI, 10000, .inl gw)), (md, .inl (cI, 10000, .inl gd))] H := hP.sub [6, 0, 1, 2, 3, 8, 7, 4, 5] rfl
        have hD : va_D A [(mx, .inr (11, [.int ml, .int mw, .ref ms, .int mgl, .int mhd, .int mre, .int mag, .int mkt, .int mho, .int mpc, .int msd2_182, .int mki, .ref mk, .ref ma, .ref mo, .ref mg, .ref mm, .ref mt, .int mdn, .int mun, .ref mn, .int mtk2_186, .ref me, .ref mq, .int msv, .ref mwo, .ref md, .ref mf, .ref mr])), (ma, .inl (cI, 40, .inl fa2_182)), (mo, .inl (cI, 81, .inl fo2_182)), (mg, .inl (cI, 81, .inl fr)), (mk, .inl (cI, 40, .inl fk)), (mn, .inl (cZ, 40, .inl ft2_186)), (mt, .inl (cB, 172241, .inl gs_)), (mwo, .inl (cI, 10000, .inl gw)), (md, .inl (cI, 10000, .inl gd))] := hD.sub [6, 0, 1, 2, 3, 8, 7, 4, 5] (by decide) rfl
        try dsimp only at hw_186
        obtain ⟨hl0, hl1, hl2⟩ := hw_186
        have hpd3 := hpd0.rows hpc.2 hdn0 (fun _ _ => rfl) (fun n hn => (hrows n hn).2) hrs3 hl0 hl1 hl2
        have hms3 : msd2_182 = msd := (kt_eq _ _).mpr (hpd3.2.1.1.trans hpd0.2.1.1.symm)
        refine lv_iload_n hx hb dX11_best_189 rfl (lv_at hl 3 rfl) ?_
        exact kt_ri (mtk2_186, msd2_182, fa2_182, fo2_182, ft2_186) hx hb hr hlk hS dX11_best_190 hP hD (by show ¬ mho.toInt = 0 → kt_PI ml mw mpc msd2_182 mki mdn mun mkt mhd fr fk fa2_182 fo2_182 mv gs_ P_ ∧ kt_cut P_ fa2_182 = kt_cut P_ fa ∧ msd2_182 = msd ∧ kt_PD ml mw msd2_182 mki mdn mun mkt mhd mho mtk2_186 mgl mre mag fr fk mv gs_ ft2_186 P_; first | exact fun h => ⟨hpi h, rfl, rfl, hpd h⟩ | exact fun _ => ⟨hpi3, hct3, hms3, hpd3⟩)
      · have d_50 := c_50
        simp only [kt_lt, kt_le, kt_eq, kt_c0, kt_c1, kt_c2, kt_c3, kt_c4, kt_c8, kt_c9, kt_cm1, kt_c81, kt_c40, kt_c7, kt_c5, kt_c6, kt_c512, kt_c10, kt_c10000] at d_50
        
        refine lv_iload_n hx hb dX11_best_53 rfl (lv_at hl 4 rfl) ?_
        refine lv_if_ne (tgt := 177) hx hb dX11_best_54 (by decide) (fun c_54 => ?_) (fun c_54 => ?_)
        · have d_54 := c_54
          simp only [kt_lt, kt_le, kt_eq, kt_c0, kt_c1, kt_c2, kt_c3, kt_c4, kt_c8, kt_c9, kt_cm1, kt_c81, kt_c40, kt_c7, kt_c5, kt_c6, kt_c512, kt_c10, kt_c10000] at d_54
          refine lv_aload_n hx hb dX11_best_177 rfl (lv_at hl 6 rfl) ?_
          have hrj := hpl0.inj (n := mdn.toInt.toNat) (by omega)
          have hrd := (hrows mdn.toInt.toNat (by omega)).1
          refine lv_aload_n hx hb dX11_best_178 rfl (lv_at hl 6 rfl) ?_
          refine va_get (D := D) (ci := 11) (C := RX11) (T := TX11) (N := 29) hx hb hts iw_X11_best_X11 hown hK hP 0 rfl rfl 18 (by decide) (hts (.fieldLink RX11 138 "KingTableModel" "done" "I") (kt_wp_X11_best__X11_best_r1 kt_wm4)) (fun _ h9 => h9) rfl dX11_best_179 ?_
          refine kt_bv (wc := [(mx, .inr (11, [.int ml, .int mw, .ref ms, .int mgl, .int mhd, .int mre, .int mag, .int mkt, .int mho, .int mpc, .int asd, .int mki, .ref mk, .ref ma, .ref mo, .ref mg, .ref mm, .ref mt, .int mdn, .int mun, .ref mn, .int atk, .ref me, .ref mq, .int msv, .ref mwo, .ref md, .ref mf, .ref mr])), (ma, .inl (cI, 40, .inl a1)), (mo, .inl (cI, 81, .inl a2)), (mt, .inl (cB, 172241, .inl gs_))]) (wr := [(mg, .inl (cI, 81, .inl fr)), (mk, .inl (cI, 40, .inl fk)), (mn, .inl (cZ, 40, .inl a3)), (mwo, .inl (cI, 10000, .inl gw)), (md, .inl (cI, 10000, .inl gd))]) [0, 1, 2, 6] [3, 4, 5, 7, 8] hP hD hS hA rfl rfl (by decide) (by decide) (by decide) (fun hPc hDc => va_runV (As := [.int mdn]) (rest := []) ⟨hx, hb, hml, hown, hts⟩ (c_X11_readE l D cI cZ cB H.size mx ms mk ma mo mg mm mt mn me mq mwo md mf mr ml mw mgl mhd mre mag mkt mho mpc asd mki mdn mun atk msv P_ a1 a2 gs_ mdn hml_ hmw hpc (by omega) hrd hrj) (cwV 1 hts gX11_best_X11_read rfl rfl rfl (by decide +kernel) ⟨Nat.le_of_ble_eq_true rfl, Nat.le_of_ble_eq_true rfl⟩) (kt_preV hN hK hPc hDc 0 (ci := 11) (q := (RX11, TX11, 29)) rfl rfl) rfl rfl hl.1 rfl (lv_room (Nat.le_of_ble_eq_true rfl)) dX11_best_182 ⟨Nat.le_of_ble_eq_true rfl, Nat.le_of_ble_eq_true rfl⟩) (fun u_ H locs hw_182 hP hD hS => ?_)
          obtain ⟨fa2_182, fo2_182, msd2_182⟩ := u_
          have hP : va_P D vwCl [(mx, .inr (11, [.int ml, .int mw, .ref ms, .int mgl, .int mhd, .int mre, .int mag, .int mkt, .int mho, .int mpc, .int msd2_182, .int mki, .ref mk, .ref ma, .ref mo, .ref mg, .ref mm, .ref mt, .int mdn, .int mun, .ref mn, .int atk, .ref me, .ref mq, .int msv, .ref mwo, .ref md, .ref mf, .ref mr])), (ma, .inl (cI, 40, .inl fa2_182)), (mo, .inl (cI, 81, .inl fo2_182)), (mg, .inl (cI, 81, .inl fr)), (mk, .inl (cI, 40, .inl fk)), (mn, .inl (cZ, 40, .inl a3)), (mt, .inl (cB, 172241, .inl gs_)), (mwo, .inl (cI, 10000, .inl gw)), (md, .inl (cI, 10000, .inl gd))] H := hP.sub [5, 6, 7, 0, 1, 2, 8, 3, 4] rfl
          have hD : va_D A [(mx, .inr (11, [.int ml, .int mw, .ref ms, .int mgl, .int mhd, .int mre, .int mag, .int mkt, .int mho, .int mpc, .int msd2_182, .int mki, .ref mk, .ref ma, .ref mo, .ref mg, .ref mm, .ref mt, .int mdn, .int mun, .ref mn, .int atk, .ref me, .ref mq, .int msv, .ref mwo, .ref md, .ref mf, .ref mr])), (ma, .inl (cI, 40, .inl fa2_182)), (mo, .inl (cI, 81, .inl fo2_182)), (mg, .inl (cI, 81, .inl fr)), (mk, .inl (cI, 40, .inl fk)), (mn, .inl (cZ, 40, .inl a3)), (mt, .inl (cB, 172241, .inl gs_)), (mwo, .inl (cI, 10000, .inl gw)), (md, .inl (cI, 10000, .inl gd))] := hD.sub [5, 6, 7, 0, 1, 2, 8, 3, 4] (by decide) rfl
          try dsimp only at hw_182
          obtain ⟨hfc3, hsd3, hrd3, hrs3⟩ := hw_182
          have hct3 : kt_cut P_ fa2_182 = kt_cut P_ fa := by
            rw [hcut, ← (hrows mdn.toInt.toNat (by omega)).2]
            exact kt_cut_eq (fun j hj => hrd3 j hj)
          have hpi3 := hpl0.rows (by omega) (fun _ _ => rfl) hsd3 hfc3 hct3
          refine lv_aload_n hx hb dX11_best_185 rfl (lv_at hl 6 rfl) ?_
          refine kt_bv (wc := [(mx, .inr (11, [.int ml, .int mw, .ref ms, .int mgl, .int mhd, .int mre, .int mag, .int mkt, .int mho, .int mpc, .int msd2_182, .int mki, .ref mk, .ref ma, .ref mo, .ref mg, .ref mm, .ref mt, .int mdn, .int mun, .ref mn, .int atk, .ref me, .ref mq, .int msv, .ref mwo, .ref md, .ref mf, .ref mr])), (mt, .inl (cB, 172241, .inl gs_)), (mn, .inl (cZ, 40, .inl a3))]) (wr := [(ma, .inl (cI, 40, .inl fa2_182)), (mo, .inl (cI, 81, .inl fo2_182)), (mg, .inl (cI, 81, .inl fr)), (mk, .inl (cI, 40, .inl fk)), (mwo, .inl (cI, 10000, .inl gw)), (md, .inl (cI, 10000, .inl gd))]) [0, 6, 5] [1, 2, 3, 4, 7, 8] hP hD hS hA rfl rfl (by decide) (by decide) (by decide) (fun hPc hDc => va_runV (As := []) (rest := []) ⟨hx, hb, hml, hown, hts⟩ (c_X11_lookAgainX l D cI cZ cB H.size mx ms mk ma mo mg mm mt mn me mq mwo md mf mr ml mw mgl mhd mre mag mkt mho mpc msd2_182 mki mdn mun atk msv P_ gs_ a3 hpc (by omega)) (cwV 0 hts gX11_best_X11_lookAgain rfl rfl rfl (by decide +kernel) ⟨Nat.le_of_ble_eq_true rfl, Nat.le_of_ble_eq_true rfl⟩) (kt_preV hN hK hPc hDc 0 (ci := 11) (q := (RX11, TX11, 29)) rfl rfl) rfl rfl hl.1 rfl (lv_room (Nat.le_of_ble_eq_true rfl)) dX11_best_186 ⟨Nat.le_of_ble_eq_true rfl, Nat.le_of_ble_eq_true rfl⟩) (fun u_ H locs hw_186 hP hD hS => ?_)
          obtain ⟨mtk2_186, ft2_186⟩ := u_
          have hP : va_P D vwCl [(mx, .inr (11, [.int ml, .int mw, .ref ms, .int mgl, .int mhd, .int mre, .int mag, .int mkt, .int mho, .int mpc, .int msd2_182, .int mki, .ref mk, .ref ma, .ref mo, .ref mg, .ref mm, .ref mt, .int mdn, .int mun, .ref mn, .int mtk2_186, .ref me, .ref mq, .int msv, .ref mwo, .ref md, .ref mf, .ref mr])), (ma, .inl (cI, 40, .inl fa2_182)), (mo, .inl (cI, 81, .inl fo2_182)), (mg, .inl (cI, 81, .inl fr)), (mk, .inl (cI, 40, .inl fk)), (mn, .inl (cZ, 40, .inl ft2_186)), (mt, .inl (cB, 172241, .inl gs_)), (mwo, .inl (cI, 10000, .inl gw)), (md, .inl (cI, 10000, .inl gd))] H := hP.sub [6, 0, 1, 2, 3, 8, 7, 4, 5] rfl
          have hD : va_D A [(mx, .inr (11, [.int ml, .int mw, .ref ms, .int mgl, .int mhd, .int mre, .int mag, .int mkt, .int mho, .int mpc, .int msd2_182, .int mki, .ref mk, .ref ma, .ref mo, .ref mg, .ref mm, .ref mt, .int mdn, .int mun, .ref mn, .int mtk2_186, .ref me, .ref mq, .int msv, .ref mwo, .ref md, .ref mf, .ref mr])), (ma, .inl (cI, 40, .inl fa2_182)), (mo, .inl (cI, 81, .inl fo2_182)), (mg, .inl (cI, 81, .inl fr)), (mk, .inl (cI, 40, .inl fk)), (mn, .inl (cZ, 40, .inl ft2_186)), (mt, .inl (cB, 172241, .inl gs_)), (mwo, .inl (cI, 10000, .inl gw)), (md, .inl (cI, 10000, .inl gd))] := hD.sub [6, 0, 1, 2, 3, 8, 7, 4, 5] (by decide) rfl
          try dsimp only at hw_186
          obtain ⟨hl0, hl1, hl2⟩ := hw_186
          have hpd3 := hpd0.rows hpc.2 hdn0 (fun _ _ => rfl) (fun n hn => (hrows n hn).2) hrs3 hl0 hl1 hl2
          have hms3 : msd2_182 = msd := (kt_eq _ _).mpr (hpd3.2.1.1.trans hpd0.2.1.1.symm)
          refine lv_iload_n hx hb dX11_best_189 rfl (lv_at hl 3 rfl) ?_
          exact kt_ri (mtk2_186, msd2_182, fa2_182, fo2_182, ft2_186) hx hb hr hlk hS dX11_best_190 hP hD (by show ¬ mho.toInt = 0 → kt_PI ml mw mpc msd2_182 mki mdn mun mkt mhd fr fk fa2_182 fo2_182 mv gs_ P_ ∧ kt_cut P_ fa2_182 = kt_cut P_ fa ∧ msd2_182 = msd ∧ kt_PD ml mw msd2_182 mki mdn mun mkt mhd mho mtk2_186 mgl mre mag fr fk mv gs_ ft2_186 P_; first | exact fun h => ⟨hpi h, rfl, rfl, hpd h⟩ | exact fun _ => ⟨hpi3, hct3, hms3, hpd3⟩)
        · have d_54 := c_54
          simp only [kt_lt, kt_le, kt_eq, kt_c0, kt_c1, kt_c2, kt_c3, kt_c4, kt_c8, kt_c9, kt_cm1, kt_c81, kt_c40, kt_c7, kt_c5, kt_c6, kt_c512, kt_c10, kt_c10000] at d_54
          refine lv_aload_n hx hb dX11_best_57 rfl (lv_at hl 6 rfl) ?_
          refine lv_iload_n hx hb dX11_best_58 rfl (lv_at hl 5 rfl) ?_
          refine lv_iload hx hb dX11_best_59 (lv_at hl 0 rfl) ?_
          refine kt_bi (wc := [(mx, .inr (11, [.int ml, .int mw, .ref ms, .int mgl, .int mhd, .int mre, .int mag, .int mkt, .int mho, .int mpc, .int asd, .int mki, .ref mk, .ref ma, .ref mo, .ref mg, .ref mm, .ref mt, .int mdn, .int mun, .ref mn, .int atk, .ref me, .ref mq, .int msv, .ref mwo, .ref md, .ref mf, .ref mr])), (ma, .inl (cI, 40, .inl a1)), (mo, .inl (cI, 81, .inl a2)), (mg, .inl (cI, 81, .inl fr)), (mk, .inl (cI, 40, .inl fk)), (mn, .inl (cZ, 40, .inl a3))]) (wr := [(mt, .inl (cB, 172241, .inl gs_)), (mwo, .inl (cI, 10000, .inl gw)), (md, .inl (cI, 10000, .inl gd))]) [0, 1, 2, 3, 4, 5] [6, 7, 8] hP hD hS hA rfl rfl (by decide) (by decide) (by decide) (fun hPc hDc => va_runV (As := [.int r_10, .int mv_]) (rest := []) ⟨hx, hb, hml, hown, hts⟩ (c_X11_leads l D cI cZ cB H.size mx ms mk ma mo mg mm mt mn me mq mwo md mf mr ml mw mgl mhd mre mag mkt mho mpc asd mki mdn mun atk msv P_ a1 a2 fr fk a3 gw r_10 mv_ hml_ hmw hpc hfa hco hsd hst_ (by omega) (by omega)) (cwV 2 hts gX11_best_X11_leads rfl rfl rfl (by decide +kernel) ⟨Nat.le_of_ble_eq_true rfl, Nat.le_of_ble_eq_true rfl⟩) (kt_preV hN hK hPc hDc 0 (ci := 11) (q := (RX11, TX11, 29)) rfl rfl) rfl rfl hl.1 rfl (lv_room (Nat.le_of_ble_eq_true rfl)) dX11_best_61 ⟨Nat.le_of_ble_eq_true rfl, Nat.le_of_ble_eq_true rfl⟩) (fun r_61 u_ H locs hw_61 hP hD hS => ?_)
          obtain ⟨z1_61, z2_61, z3_61, ztk_61, zsd_61⟩ := u_
          have hP : va_P D vwCl [(mx, .inr (11, [.int ml, .int mw, .ref ms, .int mgl, .int mhd, .int mre, .int mag, .int mkt, .int mho, .int mpc, .int zsd_61, .int mki, .ref mk, .ref ma, .ref mo, .ref mg, .ref mm, .ref mt, .int mdn, .int mun, .ref mn, .int ztk_61, .ref me, .ref mq, .int msv, .ref mwo, .ref md, .ref mf, .ref mr])), (ma, .inl (cI, 40, .inl z1_61)), (mo, .inl (cI, 81, .inl z2_61)), (mg, .inl (cI, 81, .inl fr)), (mk, .inl (cI, 40, .inl fk)), (mn, .inl (cZ, 40, .inl z3_61)), (mt, .inl (cB, 172241, .inl gs_)), (mwo, .inl (cI, 10000, .inl gw)), (md, .inl (cI, 10000, .inl gd))] H := hP.sub [3, 4, 5, 6, 7, 8, 0, 1, 2] rfl
          have hD : va_D A [(mx, .inr (11, [.int ml, .int mw, .ref ms, .int mgl, .int mhd, .int mre, .int mag, .int mkt, .int mho, .int mpc, .int zsd_61, .int mki, .ref mk, .ref ma, .ref mo, .ref mg, .ref mm, .ref mt, .int mdn, .int mun, .ref mn, .int ztk_61, .ref me, .ref mq, .int msv, .ref mwo, .ref md, .ref mf, .ref mr])), (ma, .inl (cI, 40, .inl z1_61)), (mo, .inl (cI, 81, .inl z2_61)), (mg, .inl (cI, 81, .inl fr)), (mk, .inl (cI, 40, .inl fk)), (mn, .inl (cZ, 40, .inl z3_61)), (mt, .inl (cB, 172241, .inl gs_)), (mwo, .inl (cI, 10000, .inl gw)), (md, .inl (cI, 10000, .inl gd))] := hD.sub [3, 4, 5, 6, 7, 8, 0, 1, 2] (by decide) rfl
          try dsimp only at hw_61
          obtain ⟨hr_, hfa, hco, hsd⟩ := hw_61
          refine lv_istore (lv' := [(7, .int r_61), (6, .int mv_), (5, .int t_35), (4, .int bd), (3, .int bs), (2, .int en), (1, .int r_10), (0, .ref mx)]) hx hb dX11_best_64 hl (by decide) rfl (fun ls hl => ?_)
          refine lv_iload hx hb dX11_best_66 (lv_at hl 0 rfl) ?_
          refine lv_iconst (v := (-1)) hx hb dX11_best_68 (by decide) ?_
          refine lv_icmp_eq (tgt := 171) hx hb dX11_best_69 (by decide) (fun c_69 => ?_) (fun c_69 => ?_)
          · have d_69 := c_69
            simp only [kt_lt, kt_le, kt_eq, kt_c0, kt_c1, kt_c2, kt_c3, kt_c4, kt_c8, kt_c9, kt_cm1, kt_c81, kt_c40, kt_c7, kt_c5, kt_c6, kt_c512, kt_c10, kt_c10000] at d_69
            obtain ⟨t_171, et_171⟩ : ∃ y : Int32, y = mv_ + 1 := ⟨_, rfl⟩
            obtain ⟨k_171, hk_171, hm_171, hM_171⟩ := kt_addk et_171
            try simp only [kt_c0, kt_c1, kt_c2, kt_c3, kt_c4, kt_c8, kt_c9, kt_cm1, kt_c81, kt_c40, kt_c7, kt_c5, kt_c6, kt_c512, kt_c10, kt_c10000] at hk_171
            refine lv_iinc (v := t_171) (lv' := [(6, .int t_171), (7, .int r_61), (5, .int t_35), (4, .int bd), (3, .int bs), (2, .int en), (1, .int r_10), (0, .ref mx)]) hx hb dX11_best_171 hl (k := 1) rfl (by rw [et_171]; rfl) (by decide) rfl (fun ls hl => ?_)
            refine lv_goto (tgt := 41) hx hb dX11_best_174 (by decide) ?_
            exact ih_41 (t_171, bs, bd, z1_61, z2_61, z3_61, ztk_61, zsd_61) (by show (0 ≤ t_171.toInt ∧ t_171.toInt ≤ 1280 ∧ 1280 < t_171.toInt + n_41) ∧ kt_r z1_61 P_ (-1) (ml.toInt * mw.toInt - 1) ∧ kt_con z2_61 z1_61 P_ ∧ (0 ≤ zsd_61.toInt ∧ zsd_61.toInt ≤ 1); exact ⟨by omega, hfa, hco, hsd⟩) H _ hP hD hS ls (lv_sub hl [0, 2, 3, 4, 5, 6, 7] rfl)
          · have d_69 := c_69
            simp only [kt_lt, kt_le, kt_eq, kt_c0, kt_c1, kt_c2, kt_c3, kt_c4, kt_c8, kt_c9, kt_cm1, kt_c81, kt_c40, kt_c7, kt_c5, kt_c6, kt_c512, kt_c10, kt_c10000] at d_69
            refine lv_aload_n hx hb dX11_best_72 rfl (lv_at hl 7 rfl) ?_
            refine va_get (D := D) (ci := 11) (C := RX11) (T := TX11) (N := 29) hx hb hts iw_X11_best_X11 hown hK hP 0 rfl rfl 25 (by decide) (hts (.fieldLink RX11 57 "KingTableModel" "worths" "[I") (kt_wp_X11_best__X11_best_r1 kt_wm2)) (fun _ h9 => h9) rfl dX11_best_73 ?_
            refine lv_iload hx hb dX11_best_76 (lv_at hl 0 rfl) ?_
            have hi_1 : vp_in r_61 10000 := by exact kt_in (by omega) (by omega)
            refine va_iald hx hb hK hP 7 0 rfl rfl hi_1 dX11_best_78 ?_
            refine lv_topi (fun a_78 ea_78 => ?_)
            refine lv_aload_n hx hb dX11_best_79 rfl (lv_at hl 7 rfl) ?_
            refine va_get (D := D) (ci := 11) (C := RX11) (T := TX11) (N := 29) hx hb hts iw_X11_best_X11 hown hK hP 0 rfl rfl 25 (by decide) (hts (.fieldLink RX11 57 "KingTableModel" "worths" "[I") (kt_wp_X11_best__X11_best_r1 kt_wm2)) (fun _ h9 => h9) rfl dX11_best_80 ?_
            refine lv_iload_n hx hb dX11_best_83 rfl (lv_at hl 6 rfl) ?_
            have hi_2 : vp_in r_10 10000 := by exact kt_in (by omega) (by omega)
            refine va_iald hx hb hK hP 7 0 rfl rfl hi_2 dX11_best_84 ?_
            refine lv_topi (fun a_84 ea_84 => ?_)
            refine lv_icmp_eq (tgt := 91) hx hb dX11_best_85 (by decide) (fun c_85 => ?_) (fun c_85 => ?_)
            · have d_85 := c_85
              simp only [kt_lt, kt_le, kt_eq, kt_c0, kt_c1, kt_c2, kt_c3, kt_c4, kt_c8, kt_c9, kt_cm1, kt_c81, kt_c40, kt_c7, kt_c5, kt_c6, kt_c512, kt_c10, kt_c10000] at d_85
              refine lv_iload_n hx hb dX11_best_91 rfl (lv_at hl 4 rfl) ?_
              refine lv_iconst (v := (-1)) hx hb dX11_best_92 (by decide) ?_
              refine kt_join (σ := Int32) 149 9 (fun u => [(mx, .inr (11, [.int ml, .int mw, .ref ms, .int mgl, .int mhd, .int mre, .int mag, .int mkt, .int mho, .int mpc, .int zsd_61, .int mki, .ref mk, .ref ma, .ref mo, .ref mg, .ref mm, .ref mt, .int mdn, .int mun, .ref mn, .int ztk_61, .ref me, .ref mq, .int msv, .ref mwo, .ref md, .ref mf, .ref mr])), (ma, .inl (cI, 40, .inl z1_61)), (mo, .inl (cI, 81, .inl z2_61)), (mg, .inl (cI, 81, .inl fr)), (mk, .inl (cI, 40, .inl fk)), (mn, .inl (cZ, 40, .inl z3_61)), (mt, .inl (cB, 172241, .inl gs_)), (mwo, .inl (cI, 10000, .inl gw)), (md, .inl (cI, 10000, .inl gd))]) (fun u => [(7, .int r_61), (6, .int mv_), (5, .int t_35), (4, .int bd), (3, .int bs), (2, .int en), (1, .int r_10), (0, .ref mx)]) (fun u => [.int u]) (fun u => True) (D := D) (A := A) (H0 := s.heap) (fun u hI H locs hP hD hS ls hl => ?_) (fun j_149 => ?_)
              · obtain ⟨bt, rfl⟩ : ∃ z, z = u := ⟨_, rfl⟩
                have hP : va_P D vwCl [(mx, .inr (11, [.int ml, .int mw, .ref ms, .int mgl, .int mhd, .int mre, .int mag, .int mkt, .int mho, .int mpc, .int zsd_61, .int mki, .ref mk, .ref ma, .ref mo, .ref mg, .ref mm, .ref mt, .int mdn, .int mun, .ref mn, .int ztk_61, .ref me, .ref mq, .int msv, .ref mwo, .ref md, .ref mf, .ref mr])), (ma, .inl (cI, 40, .inl z1_61)), (mo, .inl (cI, 81, .inl z2_61)), (mg, .inl (cI, 81, .inl fr)), (mk, .inl (cI, 40, .inl fk)), (mn, .inl (cZ, 40, .inl z3_61)), (mt, .inl (cB, 172241, .inl gs_)), (mwo, .inl (cI, 10000, .inl gw)), (md, .inl (cI, 10000, .inl gd))] H := hP
                have hD : va_D A [(mx, .inr (11, [.int ml, .int mw, .ref ms, .int mgl, .int mhd, .int mre, .int mag, .int mkt, .int mho, .int mpc, .int zsd_61, .int mki, .ref mk, .ref ma, .ref mo, .ref mg, .ref mm, .ref mt, .int mdn, .int mun, .ref mn, .int ztk_61, .ref me, .ref mq, .int msv, .ref mwo, .ref md, .ref mf, .ref mr])), (ma, .inl (cI, 40, .inl z1_61)), (mo, .inl (cI, 81, .inl z2_61)), (mg, .inl (cI, 81, .inl fr)), (mk, .inl (cI, 40, .inl fk)), (mn, .inl (cZ, 40, .inl z3_61)), (mt, .inl (cB, 172241, .inl gs_)), (mwo, .inl (cI, 10000, .inl gw)), (md, .inl (cI, 10000, .inl gd))] := hD
                have hl : lv_has ls 9 [(7, .int r_61), (6, .int mv_), (5, .int t_35), (4, .int bd), (3, .int bs), (2, .int en), (1, .int r_10), (0, .ref mx)] := hl
                refine lv_istore (lv' := [(8, .int bt), (7, .int r_61), (6, .int mv_), (5, .int t_35), (4, .int bd), (3, .int bs), (2, .int en), (1, .int r_10), (0, .ref mx)]) hx hb dX11_best_149 hl (by decide) rfl (fun ls hl => ?_)
                refine lv_iload hx hb dX11_best_151 (lv_at hl 0 rfl) ?_
                refine lv_if_ne (tgt := 159) hx hb dX11_best_153 (by decide) (fun c_153 => ?_) (fun c_153 => ?_)
                · have d_153 := c_153
                  simp only [kt_lt, kt_le, kt_eq, kt_c0, kt_c1, kt_c2, kt_c3, kt_c4, kt_c8, kt_c9, kt_cm1, kt_c81, kt_c40, kt_c7, kt_c5, kt_c6, kt_c512, kt_c10, kt_c10000] at d_153
                  refine lv_iload hx hb dX11_best_159 (lv_at hl 2 rfl) ?_
                  refine lv_istore_n (lv' := [(3, .int mv_), (8, .int bt), (7, .int r_61), (6, .int mv_), (5, .int t_35), (4, .int bd), (2, .int en), (1, .int r_10), (0, .ref mx)]) hx hb dX11_best_161 rfl hl (by decide) rfl (fun ls hl => ?_)
                  refine lv_aload_n hx hb dX11_best_162 rfl (lv_at hl 8 rfl) ?_
                  refine va_get (D := D) (ci := 11) (C := RX11) (T := TX11) (N := 29) hx hb hts iw_X11_best_X11 hown hK hP 0 rfl rfl 26 (by decide) (hts (.fieldLink RX11 60 "KingTableModel" "deeps" "[I") (kt_wp_X11_best__X11_best_r1 kt_wm3)) (fun _ h9 => h9) rfl dX11_best_163 ?_
                  refine lv_iload hx hb dX11_best_166 (lv_at hl 2 rfl) ?_
                  have hi_3 : vp_in r_61 10000 := by exact kt_in (by omega) (by omega)
                  refine va_iald hx hb hK hP 8 0 rfl rfl hi_3 dX11_best_168 ?_
                  refine lv_topi (fun a_168 ea_168 => ?_)
                  refine lv_istore (lv' := [(4, .int a_168), (3, .int mv_), (8, .int bt), (7, .int r_61), (6, .int mv_), (5, .int t_35), (2, .int en), (1, .int r_10), (0, .ref mx)]) hx hb dX11_best_169 hl (by decide) rfl (fun ls hl => ?_)
                  obtain ⟨t_171, et_171⟩ : ∃ y : Int32, y = mv_ + 1 := ⟨_, rfl⟩
                  obtain ⟨k_171, hk_171, hm_171, hM_171⟩ := kt_addk et_171
                  try simp only [kt_c0, kt_c1, kt_c2, kt_c3, kt_c4, kt_c8, kt_c9, kt_cm1, kt_c81, kt_c40, kt_c7, kt_c5, kt_c6, kt_c512, kt_c10, kt_c10000] at hk_171
                  refine lv_iinc (v := t_171) (lv' := [(6, .int t_171), (4, .int a_168), (3, .int mv_), (8, .int bt), (7, .int r_61), (5, .int t_35), (2, .int en), (1, .int r_10), (0, .ref mx)]) hx hb dX11_best_171 hl (k := 4) rfl (by rw [et_171]; rfl) (by decide) rfl (fun ls hl => ?_)
                  refine lv_goto (tgt := 41) hx hb dX11_best_174 (by decide) ?_
                  exact ih_41 (t_171, mv_, a_168, z1_61, z2_61, z3_61, ztk_61, zsd_61) (by show (0 ≤ t_171.toInt ∧ t_171.toInt ≤ 1280 ∧ 1280 < t_171.toInt + n_41) ∧ kt_r z1_61 P_ (-1) (ml.toInt * mw.toInt - 1) ∧ kt_con z2_61 z1_61 P_ ∧ (0 ≤ zsd_61.toInt ∧ zsd_61.toInt ≤ 1); exact ⟨by omega, hfa, hco, hsd⟩) H _ hP hD hS ls (lv_sub hl [0, 5, 1, 2, 6, 7, 8] rfl)
                · have d_153 := c_153
                  simp only [kt_lt, kt_le, kt_eq, kt_c0, kt_c1, kt_c2, kt_c3, kt_c4, kt_c8, kt_c9, kt_cm1, kt_c81, kt_c40, kt_c7, kt_c5, kt_c6, kt_c512, kt_c10, kt_c10000] at d_153
                  refine lv_goto (tgt := 171) hx hb dX11_best_156 (by decide) ?_
                  obtain ⟨t_171, et_171⟩ : ∃ y : Int32, y = mv_ + 1 := ⟨_, rfl⟩
                  obtain ⟨k_171, hk_171, hm_171, hM_171⟩ := kt_addk et_171
                  try simp only [kt_c0, kt_c1, kt_c2, kt_c3, kt_c4, kt_c8, kt_c9, kt_cm1, kt_c81, kt_c40, kt_c7, kt_c5, kt_c6, kt_c512, kt_c10, kt_c10000] at hk_171
                  refine lv_iinc (v := t_171) (lv' := [(6, .int t_171), (8, .int bt), (7, .int r_61), (5, .int t_35), (4, .int bd), (3, .int bs), (2, .int en), (1, .int r_10), (0, .ref mx)]) hx hb dX11_best_171 hl (k := 2) rfl (by rw [et_171]; rfl) (by decide) rfl (fun ls hl => ?_)
                  refine lv_goto (tgt := 41) hx hb dX11_best_174 (by decide) ?_
                  exact ih_41 (t_171, bs, bd, z1_61, z2_61, z3_61, ztk_61, zsd_61) (by show (0 ≤ t_171.toInt ∧ t_171.toInt ≤ 1280 ∧ 1280 < t_171.toInt + n_41) ∧ kt_r z1_61 P_ (-1) (ml.toInt * mw.toInt - 1) ∧ kt_con z2_61 z1_61 P_ ∧ (0 ≤ zsd_61.toInt ∧ zsd_61.toInt ≤ 1); exact ⟨by omega, hfa, hco, hsd⟩) H _ hP hD hS ls (lv_sub hl [0, 3, 4, 5, 6, 7, 8] rfl)
              refine lv_icmp_eq (tgt := 144) hx hb dX11_best_93 (by decide) (fun c_93 => ?_) (fun c_93 => ?_)
              · have d_93 := c_93
                simp only [kt_lt, kt_le, kt_eq, kt_c0, kt_c1, kt_c2, kt_c3, kt_c4, kt_c8, kt_c9, kt_cm1, kt_c81, kt_c40, kt_c7, kt_c5, kt_c6, kt_c512, kt_c10, kt_c10000] at d_93
                refine lv_iconst (v := 1) hx hb dX11_best_144 (by decide) ?_
                refine lv_goto (tgt := 149) hx hb dX11_best_145 (by decide) ?_
                exact j_149 (1 : Int32) (by trivial) H _ hP hD hS ls (lv_sub hl [0, 1, 2, 3, 4, 5, 6, 7] rfl)
              · have d_93 := c_93
                simp only [kt_lt, kt_le, kt_eq, kt_c0, kt_c1, kt_c2, kt_c3, kt_c4, kt_c8, kt_c9, kt_cm1, kt_c81, kt_c40, kt_c7, kt_c5, kt_c6, kt_c512, kt_c10, kt_c10000] at d_93
                refine lv_aload_n hx hb dX11_best_96 rfl (lv_at hl 7 rfl) ?_
                refine va_get (D := D) (ci := 11) (C := RX11) (T := TX11) (N := 29) hx hb hts iw_X11_best_X11 hown hK hP 0 rfl rfl 25 (by decide) (hts (.fieldLink RX11 57 "KingTableModel" "worths" "[I") (kt_wp_X11_best__X11_best_r1 kt_wm2)) (fun _ h9 => h9) rfl dX11_best_97 ?_
                refine lv_iload_n hx hb dX11_best_100 rfl (lv_at hl 6 rfl) ?_
                have hi_4 : vp_in r_10 10000 := by exact kt_in (by omega) (by omega)
                refine va_iald hx hb hK hP 7 0 rfl rfl hi_4 dX11_best_101 ?_
                refine lv_topi (fun a_101 ea_101 => ?_)
                refine lv_iload hx hb dX11_best_102 (lv_at hl 2 rfl) ?_
                refine lv_icmp_ne (tgt := 119) hx hb dX11_best_104 (by decide) (fun c_104 => ?_) (fun c_104 => ?_)
                · have d_104 := c_104
                  simp only [kt_lt, kt_le, kt_eq, kt_c0, kt_c1, kt_c2, kt_c3, kt_c4, kt_c8, kt_c9, kt_cm1, kt_c81, kt_c40, kt_c7, kt_c5, kt_c6, kt_c512, kt_c10, kt_c10000] at d_104
                  refine lv_aload_n hx hb dX11_best_119 rfl (lv_at hl 7 rfl) ?_
                  refine va_get (D := D) (ci := 11) (C := RX11) (T := TX11) (N := 29) hx hb hts iw_X11_best_X11 hown hK hP 0 rfl rfl 25 (by decide) (hts (.fieldLink RX11 57 "KingTableModel" "worths" "[I") (kt_wp_X11_best__X11_best_r1 kt_wm2)) (fun _ h9 => h9) rfl dX11_best_120 ?_
                  refine lv_iload_n hx hb dX11_best_123 rfl (lv_at hl 6 rfl) ?_
                  have hi_5 : vp_in r_10 10000 := by exact kt_in (by omega) (by omega)
                  refine va_iald hx hb hK hP 7 0 rfl rfl hi_5 dX11_best_124 ?_
                  refine lv_topi (fun a_124 ea_124 => ?_)
                  refine lv_iconst (v := 1) hx hb dX11_best_125 (by decide) ?_
                  refine lv_iload hx hb dX11_best_126 (lv_at hl 2 rfl) ?_
                  refine lv_isub hx hb dX11_best_128 ?_
                  refine lv_topi (fun t_128 et_128 => ?_)
                  first | have hk_128 := kt_subx et_128 (by first | omega | (simp only [kt_c0, kt_c1, kt_c2, kt_c3, kt_c4, kt_c8, kt_c9, kt_cm1, kt_c81, kt_c40, kt_c7, kt_c5, kt_c6, kt_c512, kt_c10, kt_c10000]; omega)) (by first | omega | (simp only [kt_c0, kt_c1, kt_c2, kt_c3, kt_c4, kt_c8, kt_c9, kt_cm1, kt_c81, kt_c40, kt_c7, kt_c5, kt_c6, kt_c512, kt_c10, kt_c10000]; omega)) | obtain ⟨k_128, hk_128, hm_128, hM_128⟩ := kt_subk et_128
                  try simp only [kt_c0, kt_c1, kt_c2, kt_c3, kt_c4, kt_c8, kt_c9, kt_cm1, kt_c81, kt_c40, kt_c7, kt_c5, kt_c6, kt_c512, kt_c10, kt_c10000] at hk_128
                  refine lv_icmp_ne (tgt := 148) hx hb dX11_best_129 (by decide) (fun c_129 => ?_) (fun c_129 => ?_)
                  · have d_129 := c_129
                    simp only [kt_lt, kt_le, kt_eq, kt_c0, kt_c1, kt_c2, kt_c3, kt_c4, kt_c8, kt_c9, kt_cm1, kt_c81, kt_c40, kt_c7, kt_c5, kt_c6, kt_c512, kt_c10, kt_c10000] at d_129
                    refine lv_iconst (v := 0) hx hb dX11_best_148 (by decide) ?_
                    exact j_149 (0 : Int32) (by trivial) H _ hP hD hS ls (lv_sub hl [0, 1, 2, 3, 4, 5, 6, 7] rfl)
                  · have d_129 := c_129
                    simp only [kt_lt, kt_le, kt_eq, kt_c0, kt_c1, kt_c2, kt_c3, kt_c4, kt_c8, kt_c9, kt_cm1, kt_c81, kt_c40, kt_c7, kt_c5, kt_c6, kt_c512, kt_c10, kt_c10000] at d_129
                    refine lv_aload_n hx hb dX11_best_132 rfl (lv_at hl 7 rfl) ?_
                    refine va_get (D := D) (ci := 11) (C := RX11) (T := TX11) (N := 29) hx hb hts iw_X11_best_X11 hown hK hP 0 rfl rfl 26 (by decide) (hts (.fieldLink RX11 60 "KingTableModel" "deeps" "[I") (kt_wp_X11_best__X11_best_r1 kt_wm3)) (fun _ h9 => h9) rfl dX11_best_133 ?_
                    refine lv_iload hx hb dX11_best_136 (lv_at hl 0 rfl) ?_
                    have hi_6 : vp_in r_61 10000 := by exact kt_in (by omega) (by omega)
                    refine va_iald hx hb hK hP 8 0 rfl rfl hi_6 dX11_best_138 ?_
                    refine lv_topi (fun a_138 ea_138 => ?_)
                    refine lv_iload hx hb dX11_best_139 (lv_at hl 3 rfl) ?_
                    refine lv_icmp_le (tgt := 148) hx hb dX11_best_141 (by decide) (fun c_141 => ?_) (fun c_141 => ?_)
                    · have d_141 := c_141
                      simp only [kt_lt, kt_le, kt_eq, kt_c0, kt_c1, kt_c2, kt_c3, kt_c4, kt_c8, kt_c9, kt_cm1, kt_c81, kt_c40, kt_c7, kt_c5, kt_c6, kt_c512, kt_c10, kt_c10000] at d_141
                      refine lv_iconst (v := 0) hx hb dX11_best_148 (by decide) ?_
                      exact j_149 (0 : Int32) (by trivial) H _ hP hD hS ls (lv_sub hl [0, 1, 2, 3, 4, 5, 6, 7] rfl)
                    · have d_141 := c_141
                      simp only [kt_lt, kt_le, kt_eq, kt_c0, kt_c1, kt_c2, kt_c3, kt_c4, kt_c8, kt_c9, kt_cm1, kt_c81, kt_c40, kt_c7, kt_c5, kt_c6, kt_c512, kt_c10, kt_c10000] at d_141
                      refine lv_iconst (v := 1) hx hb dX11_best_144 (by decide) ?_
                      refine lv_goto (tgt := 149) hx hb dX11_best_145 (by decide) ?_
                      exact j_149 (1 : Int32) (by trivial) H _ hP hD hS ls (lv_sub hl [0, 1, 2, 3, 4, 5, 6, 7] rfl)
                · have d_104 := c_104
                  simp only [kt_lt, kt_le, kt_eq, kt_c0, kt_c1, kt_c2, kt_c3, kt_c4, kt_c8, kt_c9, kt_cm1, kt_c81, kt_c40, kt_c7, kt_c5, kt_c6, kt_c512, kt_c10, kt_c10000] at d_104
                  refine lv_aload_n hx hb dX11_best_107 rfl (lv_at hl 7 rfl) ?_
                  refine va_get (D := D) (ci := 11) (C := RX11) (T := TX11) (N := 29) hx hb hts iw_X11_best_X11 hown hK hP 0 rfl rfl 26 (by decide) (hts (.fieldLink RX11 60 "KingTableModel" "deeps" "[I") (kt_wp_X11_best__X11_best_r1 kt_wm3)) (fun _ h9 => h9) rfl dX11_best_108 ?_
                  refine lv_iload hx hb dX11_best_111 (lv_at hl 0 rfl) ?_
                  have hi_7 : vp_in r_61 10000 := by exact kt_in (by omega) (by omega)
                  refine va_iald hx hb hK hP 8 0 rfl rfl hi_7 dX11_best_113 ?_
                  refine lv_topi (fun a_113 ea_113 => ?_)
                  refine lv_iload hx hb dX11_best_114 (lv_at hl 3 rfl) ?_
                  refine lv_icmp_lt (tgt := 144) hx hb dX11_best_116 (by decide) (fun c_116 => ?_) (fun c_116 => ?_)
                  · have d_116 := c_116
                    simp only [kt_lt, kt_le, kt_eq, kt_c0, kt_c1, kt_c2, kt_c3, kt_c4, kt_c8, kt_c9, kt_cm1, kt_c81, kt_c40, kt_c7, kt_c5, kt_c6, kt_c512, kt_c10, kt_c10000] at d_116
                    refine lv_iconst (v := 1) hx hb dX11_best_144 (by decide) ?_
                    refine lv_goto (tgt := 149) hx hb dX11_best_145 (by decide) ?_
                    exact j_149 (1 : Int32) (by trivial) H _ hP hD hS ls (lv_sub hl [0, 1, 2, 3, 4, 5, 6, 7] rfl)
                  · have d_116 := c_116
                    simp only [kt_lt, kt_le, kt_eq, kt_c0, kt_c1, kt_c2, kt_c3, kt_c4, kt_c8, kt_c9, kt_cm1, kt_c81, kt_c40, kt_c7, kt_c5, kt_c6, kt_c512, kt_c10, kt_c10000] at d_116
                    refine lv_aload_n hx hb dX11_best_119 rfl (lv_at hl 7 rfl) ?_
                    refine va_get (D := D) (ci := 11) (C := RX11) (T := TX11) (N := 29) hx hb hts iw_X11_best_X11 hown hK hP 0 rfl rfl 25 (by decide) (hts (.fieldLink RX11 57 "KingTableModel" "worths" "[I") (kt_wp_X11_best__X11_best_r1 kt_wm2)) (fun _ h9 => h9) rfl dX11_best_120 ?_
                    refine lv_iload_n hx hb dX11_best_123 rfl (lv_at hl 6 rfl) ?_
                    have hi_8 : vp_in r_10 10000 := by exact kt_in (by omega) (by omega)
                    refine va_iald hx hb hK hP 7 0 rfl rfl hi_8 dX11_best_124 ?_
                    refine lv_topi (fun a_124 ea_124 => ?_)
                    refine lv_iconst (v := 1) hx hb dX11_best_125 (by decide) ?_
                    refine lv_iload hx hb dX11_best_126 (lv_at hl 2 rfl) ?_
                    refine lv_isub hx hb dX11_best_128 ?_
                    refine lv_topi (fun t_128 et_128 => ?_)
                    first | have hk_128 := kt_subx et_128 (by first | omega | (simp only [kt_c0, kt_c1, kt_c2, kt_c3, kt_c4, kt_c8, kt_c9, kt_cm1, kt_c81, kt_c40, kt_c7, kt_c5, kt_c6, kt_c512, kt_c10, kt_c10000]; omega)) (by first | omega | (simp only [kt_c0, kt_c1, kt_c2, kt_c3, kt_c4, kt_c8, kt_c9, kt_cm1, kt_c81, kt_c40, kt_c7, kt_c5, kt_c6, kt_c512, kt_c10, kt_c10000]; omega)) | obtain ⟨k_128, hk_128, hm_128, hM_128⟩ := kt_subk et_128
                    try simp only [kt_c0, kt_c1, kt_c2, kt_c3, kt_c4, kt_c8, kt_c9, kt_cm1, kt_c81, kt_c40, kt_c7, kt_c5, kt_c6, kt_c512, kt_c10, kt_c10000] at hk_128
                    refine lv_icmp_ne (tgt := 148) hx hb dX11_best_129 (by decide) (fun c_129 => ?_) (fun c_129 => ?_)
                    · have d_129 := c_129
                      simp only [kt_lt, kt_le, kt_eq, kt_c0, kt_c1, kt_c2, kt_c3, kt_c4, kt_c8, kt_c9, kt_cm1, kt_c81, kt_c40, kt_c7, kt_c5, kt_c6, kt_c512, kt_c10, kt_c10000] at d_129
                      refine lv_iconst (v := 0) hx hb dX11_best_148 (by decide) ?_
                      exact j_149 (0 : Int32) (by trivial) H _ hP hD hS ls (lv_sub hl [0, 1, 2, 3, 4, 5, 6, 7] rfl)
                    · have d_129 := c_129
                      simp only [kt_lt, kt_le, kt_eq, kt_c0, kt_c1, kt_c2, kt_c3, kt_c4, kt_c8, kt_c9, kt_cm1, kt_c81, kt_c40, kt_c7, kt_c5, kt_c6, kt_c512, kt_c10, kt_c10000] at d_129
                      refine lv_aload_n hx hb dX11_best_132 rfl (lv_at hl 7 rfl) ?_
                      refine va_get (D := D) (ci := 11) (C := RX11) (T := TX11) (N := 29) hx hb hts iw_X11_best_X11 hown hK hP 0 rfl rfl 26 (by decide) (hts (.fieldLink RX11 60 "KingTableModel" "deeps" "[I") (kt_wp_X11_best__X11_best_r1 kt_wm3)) (fun _ h9 => h9) rfl dX11_best_133 ?_
                      refine lv_iload hx hb dX11_best_136 (lv_at hl 0 rfl) ?_
                      have hi_9 : vp_in r_61 10000 := by exact kt_in (by omega) (by omega)
                      refine va_iald hx hb hK hP 8 0 rfl rfl hi_9 dX11_best_138 ?_
                      refine lv_topi (fun a_138 ea_138 => ?_)
                      refine lv_iload hx hb dX11_best_139 (lv_at hl 3 rfl) ?_
                      refine lv_icmp_le (tgt := 148) hx hb dX11_best_141 (by decide) (fun c_141 => ?_) (fun c_141 => ?_)
                      · have d_141 := c_141
                        simp only [kt_lt, kt_le, kt_eq, kt_c0, kt_c1, kt_c2, kt_c3, kt_c4, kt_c8, kt_c9, kt_cm1, kt_c81, kt_c40, kt_c7, kt_c5, kt_c6, kt_c512, kt_c10, kt_c10000] at d_141
                        refine lv_iconst (v := 0) hx hb dX11_best_148 (by decide) ?_
                        exact j_149 (0 : Int32) (by trivial) H _ hP hD hS ls (lv_sub hl [0, 1, 2, 3, 4, 5, 6, 7] rfl)
                      · have d_141 := c_141
                        simp only [kt_lt, kt_le, kt_eq, kt_c0, kt_c1, kt_c2, kt_c3, kt_c4, kt_c8, kt_c9, kt_cm1, kt_c81, kt_c40, kt_c7, kt_c5, kt_c6, kt_c512, kt_c10, kt_c10000] at d_141
                        refine lv_iconst (v := 1) hx hb dX11_best_144 (by decide) ?_
                        refine lv_goto (tgt := 149) hx hb dX11_best_145 (by decide) ?_
                        exact j_149 (1 : Int32) (by trivial) H _ hP hD hS ls (lv_sub hl [0, 1, 2, 3, 4, 5, 6, 7] rfl)
            · have d_85 := c_85
              simp only [kt_lt, kt_le, kt_eq, kt_c0, kt_c1, kt_c2, kt_c3, kt_c4, kt_c8, kt_c9, kt_cm1, kt_c81, kt_c40, kt_c7, kt_c5, kt_c6, kt_c512, kt_c10, kt_c10000] at d_85
              refine lv_goto (tgt := 171) hx hb dX11_best_88 (by decide) ?_
              obtain ⟨t_171, et_171⟩ : ∃ y : Int32, y = mv_ + 1 := ⟨_, rfl⟩
              obtain ⟨k_171, hk_171, hm_171, hM_171⟩ := kt_addk et_171
              try simp only [kt_c0, kt_c1, kt_c2, kt_c3, kt_c4, kt_c8, kt_c9, kt_cm1, kt_c81, kt_c40, kt_c7, kt_c5, kt_c6, kt_c512, kt_c10, kt_c10000] at hk_171
              refine lv_iinc (v := t_171) (lv' := [(6, .int t_171), (7, .int r_61), (5, .int t_35), (4, .int bd), (3, .int bs), (2, .int en), (1, .int r_10), (0, .ref mx)]) hx hb dX11_best_171 hl (k := 1) rfl (by rw [et_171]; rfl) (by decide) rfl (fun ls hl => ?_)
              refine lv_goto (tgt := 41) hx hb dX11_best_174 (by decide) ?_
              exact ih_41 (t_171, bs, bd, z1_61, z2_61, z3_61, ztk_61, zsd_61) (by show (0 ≤ t_171.toInt ∧ t_171.toInt ≤ 1280 ∧ 1280 < t_171.toInt + n_41) ∧ kt_r z1_61 P_ (-1) (ml.toInt * mw.toInt - 1) ∧ kt_con z2_61 z1_61 P_ ∧ (0 ≤ zsd_61.toInt ∧ zsd_61.toInt ≤ 1); exact ⟨by omega, hfa, hco, hsd⟩) H _ hP hD hS ls (lv_sub hl [0, 2, 3, 4, 5, 6, 7] rfl)
    refine lv_icmp_eq (tgt := 26) hx hb dX11_best_19 (by decide) (fun c_19 => ?_) (fun c_19 => ?_)
    · have d_19 := c_19
      simp only [kt_lt, kt_le, kt_eq, kt_c0, kt_c1, kt_c2, kt_c3, kt_c4, kt_c8, kt_c9, kt_cm1, kt_c81, kt_c40, kt_c7, kt_c5, kt_c6, kt_c512, kt_c10, kt_c10000] at d_19
      refine lv_iconst (v := 0) hx hb dX11_best_26 (by decide) ?_
      exact j_27 (0 : Int32) (by trivial) H _ hP hD hS ls (lv_sub hl [0, 1] rfl)
    · have d_19 := c_19
      simp only [kt_lt, kt_le, kt_eq, kt_c0, kt_c1, kt_c2, kt_c3, kt_c4, kt_c8, kt_c9, kt_cm1, kt_c81, kt_c40, kt_c7, kt_c5, kt_c6, kt_c512, kt_c10, kt_c10000] at d_19
      refine lv_iconst (v := 1) hx hb dX11_best_22 (by decide) ?_
      refine lv_goto (tgt := 27) hx hb dX11_best_23 (by decide) ?_
      exact j_27 (1 : Int32) (by trivial) H _ hP hD hS ls (lv_sub hl [0, 1] rfl)
  · have d_4 := c_4
    simp only [kt_lt, kt_le, kt_eq, kt_c0, kt_c1, kt_c2, kt_c3, kt_c4, kt_c8, kt_c9, kt_cm1, kt_c81, kt_c40, kt_c7, kt_c5, kt_c6, kt_c512, kt_c10, kt_c10000] at d_4
    refine lv_iconst (v := (-1)) hx hb dX11_best_7 (by decide) ?_
    exact kt_ri (mtk, msd, fa, fo, ft) hx hb hr hlk hS dX11_best_8 hP hD (by show ¬ mho.toInt = 0 → kt_PI ml mw mpc msd mki mdn mun mkt mhd fr fk fa fo mv gs_ P_ ∧ kt_cut P_ fa = kt_cut P_ fa ∧ msd = msd ∧ kt_PD ml mw msd mki mdn mun mkt mhd mho mtk mgl mre mag fr fk mv gs_ ft P_; first | exact fun h => ⟨hpi h, rfl, rfl, hpd h⟩ | exact fun _ => ⟨hpi3, hct3, hms3, hpd3⟩)
