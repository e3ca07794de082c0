theorem iw_X11_stop_X11 : ∀ w ∈ wsX110, w ∈ wsX11_stop := fun _ h => kt_wp_X11_stop__X110 h
set_option maxHeartbeats 4000000 in
set_option maxRecDepth 100000 in
theorem c_X11_stop (l : Launch) (D : va_G) (cI cZ cB : ClassId) (sz : Nat) (mx : Nat) (ms : Nat) (mk : Nat) (ma : Nat) (mo : Nat) (mg : Nat) (mm : Nat) (mt : Nat) (mn : Nat) (me : Nat) (mq : Nat) (mwo : Nat) (md : Nat) (mf : Nat) (mr : Nat) (ml : Int32) (mw : Int32) (mgl : Int32) (mhd : Int32) (mre : Int32) (mag : Int32) (mkt : Int32) (mho : Int32) (mpc : Int32) (msd : Int32) (mki : Int32) (mdn : Int32) (mun : Int32) (mtk : Int32) (msv : Int32) : kt_Mi l yX11_stop wsX11_stop { frames := 0, cells := 0, slots := 0, locals := 0 } D (kt_ty cI cZ cB) [.ref mx] sz [(mx, .inr (11, [.int ml, .int mw, .ref ms, .int mgl, .int mhd, .int mre, .int mag, .int mkt, .int mho, .int mpc, .int msd, .int mki, .ref mk, .ref ma, .ref mo, .ref mg, .ref mm, .ref mt, .int mdn, .int mun, .ref mn, .int mtk, .ref me, .ref mq, .int msv, .ref mwo, .ref md, .ref mf, .ref mr]))] (fun (r : Int32) (u : Int32 × Int32) => (r = 1 ∧ ¬ mho.toInt = 0 ∧ u.1 = 0 ∧ u.2 = 0) ∨ (r = 0 ∧ mho.toInt = 0 ∧ u.1 = mho ∧ u.2 = msv)) (fun (u : Int32 × Int32) => [(mx, .inr (11, [.int ml, .int mw, .ref ms, .int mgl, .int mhd, .int mre, .int mag, .int mkt, .int u.1, .int mpc, .int msd, .int mki, .ref mk, .ref ma, .ref mo, .ref mg, .ref mm, .ref mt, .int mdn, .int mun, .ref mn, .int mtk, .ref me, .ref mq, .int u.2, .ref mwo, .ref md, .ref mf, .ref mr]))]) 0 0 := by
  refine kt_Mi.of (cc := cX11_stop) (maxL := 1) (ret := some .boolean) (by decide) rfl (Nat.le_of_ble_eq_true rfl) ?_
  intro p e s m below meth c A ls H hAt hP hD hS hl
  obtain ⟨hx, hb, hr, hml, hown, hts, hN, hK, hlk, hnm, hA⟩ := hAt
  have hl : lv_has ls 1 [(0, .ref mx)] := hl
  have hown : s.vm.findClass RX11 = some m.cls := hown
  refine lv_aload_n hx hb dX11_stop_0 rfl (lv_at hl 0 rfl) ?_
  refine va_get (D := D) (ci := 11) (C := RX11) (T := TX11) (N := 29) hx hb hts iw_X11_stop_X11 hown hK hP 0 rfl rfl 8 (by decide) (hts (.fieldLink RX11 73 "KingTableModel" "how" "I") (List.mem_cons_of_mem _ (List.mem_append_left _ (List.Mem.head _)))) (fun _ h9 => h9) rfl dX11_stop_1 ?_
  refine lv_if_ne (tgt := 9) hx hb dX11_stop_4 (by decide) (fun c_4 => ?_) (fun c_4 => ?_)
  · have d_4 := c_4
    simp only [kt_lt, kt_le, kt_eq, kt_c0, kt_c1, kt_c2, kt_c3, kt_c4, kt_c8, kt_c9, kt_cm1, kt_c81, kt_c40, kt_c7, kt_c5, kt_c6, kt_c512, kt_c10, kt_c10000] at d_4
    refine lv_aload_n hx hb dX11_stop_9 rfl (lv_at hl 0 rfl) ?_
    refine lv_iconst (v := 0) hx hb dX11_stop_10 (by decide) ?_
    refine va_put (D := D) (ci := 11) (v := .int 0) (ty := .int) (C := RX11) (T := TX11) (N := 29) hx hb hts iw_X11_stop_X11 tyX11 tyX11_ok nmX11 hown hK hP hD hS 0 rfl rfl 8 (by decide) (hts (.fieldLink RX11 73 "KingTableModel" "how" "I") (List.mem_cons_of_mem _ (List.mem_append_left _ (List.Mem.head _)))) (fun _ h9 => h9) rfl (by decide +kernel) rfl rfl (Nat.le_of_ble_eq_true rfl) dX11_stop_11 (fun H locs hP hD hS => ?_)
    have hP : va_P D vwCl [(mx, .inr (11, [.int ml, .int mw, .ref ms, .int mgl, .int mhd, .int mre, .int mag, .int mkt, .int 0, .int mpc, .int msd, .int mki, .ref mk, .ref ma, .ref mo, .ref mg, .ref mm, .ref mt, .int mdn, .int mun, .ref mn, .int mtk, .ref me, .ref mq, .int msv, .ref mwo, .ref md, .ref mf, .ref mr]))] H := hP
    have hD : va_D A [(mx, .inr (11, [.int ml, .int mw, .ref ms, .int mgl, .int mhd, .int mre, .int mag, .int mkt, .int 0, .int mpc, .int msd, .int mki, .ref mk, .ref ma, .ref mo, .ref mg, .ref mm, .ref mt, .int mdn, .int mun, .ref mn, .int mtk, .ref me, .ref mq, .int msv, .ref mwo, .ref md, .ref mf, .ref mr]))] := hD
    refine lv_aload_n hx hb dX11_stop_14 rfl (lv_at hl 0 rfl) ?_
    refine lv_iconst (v := 0) hx hb dX11_stop_15 (by decide) ?_
    refine va_put (D := D) (ci := 11) (v := .int 0) (ty := .boolean) (C := RX11) (T := TX11) (N := 29) hx hb hts iw_X11_stop_X11 tyX11 tyX11_ok nmX11 hown hK hP hD hS 0 rfl rfl 24 (by decide) (hts (.fieldLink RX11 76 "KingTableModel" "solved" "Z") (List.mem_cons_of_mem _ (List.mem_append_left _ (List.mem_cons_of_mem _ (List.Mem.head _))))) (fun _ h9 => h9) rfl (by decide +kernel) rfl rfl (Nat.le_of_ble_eq_true rfl) dX11_stop_16 (fun H locs hP hD hS => ?_)
    have hP : va_P D vwCl [(mx, .inr (11, [.int ml, .int mw, .ref ms, .int mgl, .int mhd, .int mre, .int mag, .int mkt, .int 0, .int mpc, .int msd, .int mki, .ref mk, .ref ma, .ref mo, .ref mg, .ref mm, .ref mt, .int mdn, .int mun, .ref mn, .int mtk, .ref me, .ref mq, .int 0, .ref mwo, .ref md, .ref mf, .ref mr]))] H := hP
    have hD : va_D A [(mx, .inr (11, [.int ml, .int mw, .ref ms, .int mgl, .int mhd, .int mre, .int mag, .int mkt, .int 0, .int mpc, .int msd, .int mki, .ref mk, .ref ma, .ref mo, .ref mg, .ref mm, .ref mt, .int mdn, .int mun, .ref mn, .int mtk, .ref me, .ref mq, .int 0, .ref mwo, .ref md, .ref mf, .ref mr]))] := hD
    refine lv_iconst (v := 1) hx hb dX11_stop_19 (by decide) ?_
    exact kt_rz (0, 0) hx hb hr hlk hS dX11_stop_20 hP hD (by show ((1 : Int32) = 1 ∧ ¬ mho.toInt = 0 ∧ (0 : Int32) = 0 ∧ (0 : Int32) = 0) ∨ ((1 : Int32) = 0 ∧ mho.toInt = 0 ∧ (0 : Int32) = mho ∧ (0 : Int32) = msv); first | exact Or.inr ⟨rfl, by omega, rfl, rfl⟩ | exact Or.inl ⟨rfl, by omega, rfl, rfl⟩) rfl
  · have d_4 := c_4
    simp only [kt_lt, kt_le, kt_eq, kt_c0, kt_c1, kt_c2, kt_c3, kt_c4, kt_c8, kt_c9, kt_cm1, kt_c81, kt_c40, kt_c7, kt_c5, kt_c6, kt_c512, kt_c10, kt_c10000] at d_4
    refine lv_iconst (v := 0) hx hb dX11_stop_7 (by decide) ?_
    exact kt_rz (mho, msv) hx hb hr hlk hS dX11_stop_8 hP hD (by show ((0 : Int32) = 1 ∧ ¬ mho.toInt = 0 ∧ mho = 0 ∧ msv = 0) ∨ ((0 : Int32) = 0 ∧ mho.toInt = 0 ∧ mho = mho ∧ msv = msv); first | exact Or.inr ⟨rfl, by omega, rfl, rfl⟩ | exact Or.inl ⟨rfl, by omega, rfl, rfl⟩) rfl

theorem iw_X11_endOf_X11 : ∀ w ∈ wsX110, w ∈ wsX11_endOf := fun _ h => kt_wp_X11_endOf__X110 h
set_option maxHeartbeats 4000000 in
set_option maxRecDepth 100000 in
theorem c_X11_endOf (l : Launch) (D : va_G) (cI cZ cB : ClassId) (sz : Nat) (mx : Nat) (ms : Nat) (mk : Nat) (ma : Nat) (mo : Nat) (mg : Nat) (mm : Nat) (mt : Nat) (mn : Nat) (me : Nat) (mq : Nat) (mwo : Nat) (md : Nat) (mf : Nat) (mr : Nat) (ml : Int32) (mw : Int32) (mgl : Int32) (mhd : Int32) (mre : Int32) (mag : Int32) (mkt : Int32) (mho : Int32) (mpc : Int32) (msd : Int32) (mki : Int32) (mdn : Int32) (mun : Int32) (mtk : Int32) (msv : Int32) (P_ : Nat) (fa : Nat → Int32) (fo : Nat → Int32) (fr : Nat → Int32) (fk : Nat → Int32) (hml_ : 2 ≤ ml.toInt ∧ ml.toInt ≤ 9) (hmw : 2 ≤ mw.toInt ∧ mw.toInt ≤ 9) (hpc : (P_ : Int) = mpc.toInt ∧ P_ ≤ 40) (hfa : kt_r fa P_ (-1) (ml.toInt * mw.toInt - 1)) (hfo : kt_r fo 81 (-1) ((P_ : Int) - 1)) (hki : 0 ≤ mki.toInt ∧ mki.toInt < (P_ : Int)) (hsd : 0 ≤ msd.toInt ∧ msd.toInt ≤ 1) : kt_Mi l yX11_endOf wsX11_endOf { frames := 4, cells := 0, slots := 0, locals := 98 } D (kt_ty cI cZ cB) [.ref mx] sz [(mx, .inr (11, [.int ml, .int mw, .ref ms, .int mgl, .int mhd, .int mre, .int mag, .int mkt, .int mho, .int mpc, .int msd, .int mki, .ref mk, .ref ma, .ref mo, .ref mg, .ref mm, .ref mt, .int mdn, .int mun, .ref mn, .int mtk, .ref me, .ref mq, .int msv, .ref mwo, .ref md, .ref mf, .ref mr])), (ma, .inl (cI, 40, .inl fa)), (mo, .inl (cI, 81, .inl fo)), (mg, .inl (cI, 81, .inl fr)), (mk, .inl (cI, 40, .inl fk))] (fun (r : Int32) (u : Unit) => 0 ≤ r.toInt ∧ r.toInt ≤ 3) (fun (u : Unit) => [(mx, .inr (11, [.int ml, .int mw, .ref ms, .int mgl, .int mhd, .int mre, .int mag, .int mkt, .int mho, .int mpc, .int msd, .int mki, .ref mk, .ref ma, .ref mo, .ref mg, .ref mm, .ref mt, .int mdn, .int mun, .ref mn, .int mtk, .ref me, .ref mq, .int msv, .ref mwo, .ref md, .ref mf, .ref mr])), (ma, .inl (cI, 40, .inl fa)), (mo, .inl (cI, 81, .inl fo)), (mg, .inl (cI, 81, .inl fr)), (mk, .inl (cI, 40, .inl fk))]) 0 0 := by
  refine kt_Mi.of (cc := cX11_endOf) (maxL := 1) (ret := some .int) (by decide) rfl (Nat.le_of_ble_eq_true rfl) ?_
  intro p e s m below meth c A ls H hAt hP hD hS hl
  obtain ⟨hx, hb, hr, hml, hown, hts, hN, hK, hlk, hnm, hA⟩ := hAt
  have hl : lv_has ls 1 [(0, .ref mx)] := hl
  have hown : s.vm.findClass RX11 = some m.cls := hown
  have hsb := kt_mulb hml_ hmw
  refine lv_aload_n hx hb dX11_endOf_0 rfl (lv_at hl 0 rfl) ?_
  refine va_get (D := D) (ci := 11) (C := RX11) (T := TX11) (N := 29) hx hb hts iw_X11_endOf_X11 hown hK hP 0 rfl rfl 13 (by decide) (hts (.fieldLink RX11 30 "KingTableModel" "at" "[I") (kt_wp_X11_endOf__X11_endOf_r1 kt_wm0)) (fun _ h9 => h9) rfl dX11_endOf_1 ?_
  refine lv_aload_n hx hb dX11_endOf_4 rfl (lv_at hl 0 rfl) ?_
  refine va_get (D := D) (ci := 11) (C := RX11) (T := TX11) (N := 29) hx hb hts iw_X11_endOf_X11 hown hK hP 0 rfl rfl 11 (by decide) (hts (.fieldLink RX11 135 "KingTableModel" "king" "I") (kt_wp_X11_endOf__X11_endOf_r1 kt_wm1)) (fun _ h9 => h9) rfl dX11_endOf_5 ?_
  have hi_1 : vp_in mki 40 := by exact kt_in (by omega) (by omega)
  refine va_iald hx hb hK hP 1 0 rfl rfl hi_1 dX11_endOf_8 ?_
  refine lv_topi (fun a_8 ea_8 => ?_)
  have ra_8 := hfa.get (kt_in (x := mki) (n := P_) (by omega) (by omega))
  rw [← ea_8] at ra_8
  refine lv_iconst (v := (-1)) hx hb dX11_endOf_9 (by decide) ?_
  refine lv_icmp_ne (tgt := 17) hx hb dX11_endOf_10 (by decide) (fun c_10 => ?_) (fun c_10 => ?_)
  · have d_10 := c_10
    simp only [kt_lt, kt_le, kt_eq, kt_c0, kt_c1, kt_c2, kt_c3, kt_c4, kt_c8, kt_c9, kt_cm1, kt_c81, kt_c40, kt_c7, kt_c5, kt_c6, kt_c512, kt_c10, kt_c10000] at d_10
    refine lv_aload_n hx hb dX11_endOf_17 rfl (lv_at hl 0 rfl) ?_
    refine lv_aload_n hx hb dX11_endOf_18 rfl (lv_at hl 0 rfl) ?_
    refine va_get (D := D) (ci := 11) (C := RX11) (T := TX11) (N := 29) hx hb hts iw_X11_endOf_X11 hown hK hP 0 rfl rfl 13 (by decide) (hts (.fieldLink RX11 30 "KingTableModel" "at" "[I") (kt_wp_X11_endOf__X11_endOf_r1 kt_wm0)) (fun _ h9 => h9) rfl dX11_endOf_19 ?_
    refine lv_aload_n hx hb dX11_endOf_22 rfl (lv_at hl 0 rfl) ?_
    refine va_get (D := D) (ci := 11) (C := RX11) (T := TX11) (N := 29) hx hb hts iw_X11_endOf_X11 hown hK hP 0 rfl rfl 11 (by decide) (hts (.fieldLink RX11 135 "KingTableModel" "king" "I") (kt_wp_X11_endOf__X11_endOf_r1 kt_wm1)) (fun _ h9 => h9) rfl dX11_endOf_23 ?_
    have hi_2 : vp_in mki 40 := by exact kt_in (by omega) (by omega)
    refine va_iald hx hb hK hP 1 0 rfl rfl hi_2 dX11_endOf_26 ?_
    refine lv_topi (fun a_26 ea_26 => ?_)
    have ra_26 := hfa.get (kt_in (x := mki) (n := P_) (by omega) (by omega))
    rw [← ea_26] at ra_26
    have hq26 : a_26.toInt = a_8.toInt := by rw [ea_26, ea_8]
    refine kt_pi (wc := [(mx, .inr (11, [.int ml, .int mw, .ref ms, .int mgl, .int mhd, .int mre, .int mag, .int mkt, .int mho, .int mpc, .int msd, .int mki, .ref mk, .ref ma, .ref mo, .ref mg, .ref mm, .ref mt, .int mdn, .int mun, .ref mn, .int mtk, .ref me, .ref mq, .int msv, .ref mwo, .ref md, .ref mf, .ref mr])), (mg, .inl (cI, 81, .inl fr))]) [0, 3] hP hD hS hA rfl (by decide) (fun hPc hDc => va_runV (As := [.int a_26]) (rest := []) ⟨hx, hb, hml, hown, hts⟩ (c_X11_isGoal l D cI cZ cB H.size mx ms mk ma mo mg mm mt mn me mq mwo md mf mr ml mw mgl mhd mre mag mkt mho mpc msd mki mdn mun mtk msv fr a_26 (by first | assumption | omega | rfl | decide) (by first | assumption | omega | rfl | decide) (by first | assumption | omega | rfl | decide)) (cwV 1 hts gX11_endOf_X11_isGoal rfl rfl rfl (by decide +kernel) ⟨Nat.le_of_ble_eq_true rfl, Nat.le_of_ble_eq_true rfl⟩) (kt_preV hN hK hPc hDc 0 (ci := 11) (q := (RX11, TX11, 29)) rfl rfl) rfl rfl hl.1 rfl (lv_room (Nat.le_of_ble_eq_true rfl)) dX11_endOf_27 ⟨Nat.le_of_ble_eq_true rfl, Nat.le_of_ble_eq_true rfl⟩) (fun r_27 _ H locs hw_27 hP hS => ?_)
    refine lv_if_eq (tgt := 37) hx hb dX11_endOf_30 (by decide) (fun c_30 => ?_) (fun c_30 => ?_)
    · have d_30 := c_30
      simp only [kt_lt, kt_le, kt_eq, kt_c0, kt_c1, kt_c2, kt_c3, kt_c4, kt_c8, kt_c9, kt_cm1, kt_c81, kt_c40, kt_c7, kt_c5, kt_c6, kt_c512, kt_c10, kt_c10000] at d_30
      refine lv_aload_n hx hb dX11_endOf_37 rfl (lv_at hl 0 rfl) ?_
      refine lv_aload_n hx hb dX11_endOf_38 rfl (lv_at hl 0 rfl) ?_
      refine va_get (D := D) (ci := 11) (C := RX11) (T := TX11) (N := 29) hx hb hts iw_X11_endOf_X11 hown hK hP 0 rfl rfl 10 (by decide) (hts (.fieldLink RX11 126 "KingTableModel" "side" "I") (kt_wp_X11_endOf__X11_endOf_r1 kt_wm2)) (fun _ h9 => h9) rfl dX11_endOf_39 ?_
      refine kt_pi (wc := [(mx, .inr (11, [.int ml, .int mw, .ref ms, .int mgl, .int mhd, .int mre, .int mag, .int mkt, .int mho, .int mpc, .int msd, .int mki, .ref mk, .ref ma, .ref mo, .ref mg, .ref mm, .ref mt, .int mdn, .int mun, .ref mn, .int mtk, .ref me, .ref mq, .int msv, .ref mwo, .ref md, .ref mf, .ref mr])), (ma, .inl (cI, 40, .inl fa)), (mo, .inl (cI, 81, .inl fo)), (mg, .inl (cI, 81, .inl fr)), (mk, .inl (cI, 40, .inl fk))]) [0, 1, 2, 3, 4] hP hD hS hA rfl (by decide) (fun hPc hDc => va_runV (As := [.int msd]) (rest := []) ⟨hx, hb, hml, hown, hts⟩ (c_X11_canGo l D cI cZ cB H.size mx ms mk ma mo mg mm mt mn me mq mwo md mf mr ml mw mgl mhd mre mag mkt mho mpc msd mki mdn mun mtk msv P_ fa fo fr fk msd (by first | assumption | omega | rfl | decide) (by first | assumption | omega | rfl | decide) (by first | assumption | omega | rfl | decide) (by first | assumption | omega | rfl | decide) (by first | assumption | omega | rfl | decide)) (cwV 1 hts gX11_endOf_X11_canGo rfl rfl rfl (by decide +kernel) ⟨Nat.le_of_ble_eq_true rfl, Nat.le_of_ble_eq_true rfl⟩) (kt_preV hN hK hPc hDc 0 (ci := 11) (q := (RX11, TX11, 29)) rfl rfl) rfl rfl hl.1 rfl (lv_room (Nat.le_of_ble_eq_true rfl)) dX11_endOf_42 ⟨Nat.le_of_ble_eq_true rfl, Nat.le_of_ble_eq_true rfl⟩) (fun r_42 _ H locs hw_42 hP hS => ?_)
      refine lv_if_eq (tgt := 52) hx hb dX11_endOf_45 (by decide) (fun c_45 => ?_) (fun c_45 => ?_)
      · have d_45 := c_45
        simp only [kt_lt, kt_le, kt_eq, kt_c0, kt_c1, kt_c2, kt_c3, kt_c4, kt_c8, kt_c9, kt_cm1, kt_c81, kt_c40, kt_c7, kt_c5, kt_c6, kt_c512, kt_c10, kt_c10000] at d_45
        refine lv_iconst (v := 1) hx hb dX11_endOf_52 (by decide) ?_
        refine lv_aload_n hx hb dX11_endOf_53 rfl (lv_at hl 0 rfl) ?_
        refine va_get (D := D) (ci := 11) (C := RX11) (T := TX11) (N := 29) hx hb hts iw_X11_endOf_X11 hown hK hP 0 rfl rfl 10 (by decide) (hts (.fieldLink RX11 126 "KingTableModel" "side" "I") (kt_wp_X11_endOf__X11_endOf_r1 kt_wm2)) (fun _ h9 => h9) rfl dX11_endOf_54 ?_
        refine lv_isub hx hb dX11_endOf_57 ?_
        refine lv_topi (fun t_57 et_57 => ?_)
        first | have hk_57 := kt_subx et_57 (by first | omega | (simp only [kt_c0, kt_c1, kt_c2, kt_c3, kt_c4, kt_c8, kt_c9, kt_cm1, kt_c81, kt_c40, kt_c7, kt_c5, kt_c6, kt_c512, kt_c10, kt_c10000]; omega)) (by first | omega | (simp only [kt_c0, kt_c1, kt_c2, kt_c3, kt_c4, kt_c8, kt_c9, kt_cm1, kt_c81, kt_c40, kt_c7, kt_c5, kt_c6, kt_c512, kt_c10, kt_c10000]; omega)) | obtain ⟨k_57, hk_57, hm_57, hM_57⟩ := kt_subk et_57
        try simp only [kt_c0, kt_c1, kt_c2, kt_c3, kt_c4, kt_c8, kt_c9, kt_cm1, kt_c81, kt_c40, kt_c7, kt_c5, kt_c6, kt_c512, kt_c10, kt_c10000] at hk_57
        exact kt_ri () hx hb hr hlk hS dX11_endOf_58 hP hD (by show 0 ≤ t_57.toInt ∧ t_57.toInt ≤ 3; first | omega | decide)
      · have d_45 := c_45
        simp only [kt_lt, kt_le, kt_eq, kt_c0, kt_c1, kt_c2, kt_c3, kt_c4, kt_c8, kt_c9, kt_cm1, kt_c81, kt_c40, kt_c7, kt_c5, kt_c6, kt_c512, kt_c10, kt_c10000] at d_45
        refine lv_iconst (v := 3) hx hb dX11_endOf_48 (by decide) ?_
        refine lv_goto (tgt := 58) hx hb dX11_endOf_49 (by decide) ?_
        exact kt_ri () hx hb hr hlk hS dX11_endOf_58 hP hD (by show 0 ≤ (3 : Int32).toInt ∧ (3 : Int32).toInt ≤ 3; first | omega | decide)
    · have d_30 := c_30
      simp only [kt_lt, kt_le, kt_eq, kt_c0, kt_c1, kt_c2, kt_c3, kt_c4, kt_c8, kt_c9, kt_cm1, kt_c81, kt_c40, kt_c7, kt_c5, kt_c6, kt_c512, kt_c10, kt_c10000] at d_30
      refine lv_iconst (v := 0) hx hb dX11_endOf_33 (by decide) ?_
      refine lv_goto (tgt := 58) hx hb dX11_endOf_34 (by decide) ?_
      exact kt_ri () hx hb hr hlk hS dX11_endOf_58 hP hD (by show 0 ≤ (0 : Int32).toInt ∧ (0 : Int32).toInt ≤ 3; first | omega | decide)
  · have d_10 := c_10
    simp only [kt_lt, kt_le, kt_eq, kt_c0, kt_c1, kt_c2, kt_c3, kt_c4, kt_c8, kt_c9, kt_cm1, kt_c81, kt_c40, kt_c7, kt_c5, kt_c6, kt_c512, kt_c10, kt_c10000] at d_10
    refine lv_iconst (v := 1) hx hb dX11_endOf_13 (by decide) ?_
    refine lv_goto (tgt := 58) hx hb dX11_endOf_14 (by decide) ?_
    exact kt_ri () hx hb hr hlk hS dX11_endOf_58 hP hD (by show 0 ≤ (1 : Int32).toInt ∧ (1 : Int32).toInt ≤ 3; first | omega | decide)
