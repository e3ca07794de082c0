theorem iw_X11_worth_X11 : ∀ w ∈ wsX110, w ∈ wsX11_worth := fun _ h => kt_wp_X11_worth__X110 h
set_option maxHeartbeats 4000000 in
set_option maxRecDepth 100000 in
theorem c_X11_worth (l : Launch) (D : va_G) (cI cZ cB : ClassId) (sz : Nat) (mx : Nat) (ms : Nat) (mk : Nat) (ma : Nat) (mo : Nat) (mg : Nat) (mm : Nat) (mt : Nat) (mn : Nat) (me : Nat) (mq : Nat) (mwo : Nat) (md : Nat) (mf : Nat) (mr : Nat) (ml : Int32) (mw : Int32) (mgl : Int32) (mhd : Int32) (mre : Int32) (mag : Int32) (mkt : Int32) (mho : Int32) (mpc : Int32) (msd : Int32) (mki : Int32) (mdn : Int32) (mun : Int32) (mtk : Int32) (msv : Int32) (P_ : Nat) (fa : Nat → Int32) (fo : Nat → Int32) (fr : Nat → Int32) (fk : Nat → Int32) (ft : Nat → Int32) (gs_ : Nat → Int32) (mv : Nat → Int32) (gw : Nat → Int32) (hml_ : 2 ≤ ml.toInt ∧ ml.toInt ≤ 9) (hmw : 2 ≤ mw.toInt ∧ mw.toInt ≤ 9) (hpi : ¬ mho.toInt = 0 → kt_PI ml mw mpc msd mki mdn mun mkt mhd fr fk fa fo mv gs_ P_) (hho : 0 ≤ mho.toInt ∧ mho.toInt ≤ 4) (hsv : ¬ msv.toInt = 0 → ¬ mho.toInt = 0 ∧ 2 * kt_pw (ml.toInt * mw.toInt + 1) P_ ≤ 10000) : kt_Mi l yX11_worth wsX11_worth { frames := 2, cells := 0, slots := 0, locals := 42 } D (kt_ty cI cZ cB) [.ref mx] sz [(mx, .inr (11, [.int ml, .int mw, .ref ms, .int mgl, .int mhd, .int mre, .int mag, .int mkt, .int mho, .int mpc, .int msd, .int mki, .ref mk, .ref ma, .ref mo, .ref mg, .ref mm, .ref mt, .int mdn, .int mun, .ref mn, .int mtk, .ref me, .ref mq, .int msv, .ref mwo, .ref md, .ref mf, .ref mr])), (ma, .inl (cI, 40, .inl fa)), (mwo, .inl (cI, 10000, .inl gw))] (fun (r : Int32) (u : Unit) => True) (fun (u : Unit) => [(mx, .inr (11, [.int ml, .int mw, .ref ms, .int mgl, .int mhd, .int mre, .int mag, .int mkt, .int mho, .int mpc, .int msd, .int mki, .ref mk, .ref ma, .ref mo, .ref mg, .ref mm, .ref mt, .int mdn, .int mun, .ref mn, .int mtk, .ref me, .ref mq, .int msv, .ref mwo, .ref md, .ref mf, .ref mr])), (ma, .inl (cI, 40, .inl fa)), (mwo, .inl (cI, 10000, .inl gw))]) 0 0 := by
  refine kt_Mi.of (cc := cX11_worth) (maxL := 1) (ret := some .int) (by decide) rfl (Nat.le_of_ble_eq_true rfl) ?_
  intro p e s m below meth c A ls H hAt hP hD hS hl
  obtain ⟨hx, hb, hr, hml, hown, hts, hN, hK, hlk, hnm, hA⟩ := hAt
  have hl : lv_has ls 1 [(0, .ref mx)] := hl
  have hown : s.vm.findClass RX11 = some m.cls := hown
  refine lv_aload_n hx hb dX11_worth_0 rfl (lv_at hl 0 rfl) ?_
  refine va_get (D := D) (ci := 11) (C := RX11) (T := TX11) (N := 29) hx hb hts iw_X11_worth_X11 hown hK hP 0 rfl rfl 24 (by decide) (hts (.fieldLink RX11 76 "KingTableModel" "solved" "Z") (List.mem_cons_of_mem _ (List.mem_append_left _ (List.Mem.head _)))) (fun _ h9 => h9) rfl dX11_worth_1 ?_
  refine lv_if_eq (tgt := 19) hx hb dX11_worth_4 (by decide) (fun c_4 => ?_) (fun c_4 => ?_)
  · have d_4 := c_4
    simp only [kt_lt, kt_le, kt_eq, kt_c0, kt_c1, kt_c2, kt_c3, kt_c4, kt_c8, kt_c9, kt_cm1, kt_c81, kt_c40, kt_c7, kt_c5, kt_c6, kt_c512, kt_c10, kt_c10000] at d_4
    refine lv_iconst (v := (-1)) hx hb dX11_worth_19 (by decide) ?_
    exact kt_ri () hx hb hr hlk hS dX11_worth_20 hP hD (by show True; trivial)
  · have d_4 := c_4
    simp only [kt_lt, kt_le, kt_eq, kt_c0, kt_c1, kt_c2, kt_c3, kt_c4, kt_c8, kt_c9, kt_cm1, kt_c81, kt_c40, kt_c7, kt_c5, kt_c6, kt_c512, kt_c10, kt_c10000] at d_4
    obtain ⟨hm0, hst_⟩ := hsv (by omega)
    have hpl := hpi hm0
    have hpl0 := hpl
    obtain ⟨⟨hpc, hki, hsd, hdn0, hun0⟩, ⟨hfa, hco, hcc⟩, hinj, hrows, hcut, hlgl⟩ := hpl
    have hpw1 := kt_pw_1 (B := (ml.toInt * mw.toInt + 1)) (by have := kt_mulb hml_ hmw; omega) P_
    refine lv_aload_n hx hb dX11_worth_7 rfl (lv_at hl 0 rfl) ?_
    refine va_get (D := D) (ci := 11) (C := RX11) (T := TX11) (N := 29) hx hb hts iw_X11_worth_X11 hown hK hP 0 rfl rfl 25 (by decide) (hts (.fieldLink RX11 57 "KingTableModel" "worths" "[I") (List.mem_cons_of_mem _ (List.mem_append_left _ (List.mem_cons_of_mem _ (List.Mem.head _))))) (fun _ h9 => h9) rfl dX11_worth_8 ?_
    refine lv_aload_n hx hb dX11_worth_11 rfl (lv_at hl 0 rfl) ?_
    refine kt_pi (wc := [(mx, .inr (11, [.int ml, .int mw, .ref ms, .int mgl, .int mhd, .int mre, .int mag, .int mkt, .int mho, .int mpc, .int msd, .int mki, .ref mk, .ref ma, .ref mo, .ref mg, .ref mm, .ref mt, .int mdn, .int mun, .ref mn, .int mtk, .ref me, .ref mq, .int msv, .ref mwo, .ref md, .ref mf, .ref mr])), (ma, .inl (cI, 40, .inl fa))]) [0, 1] hP hD hS hA rfl (by decide) (fun hPc hDc => va_runV (As := []) (rest := [.ref mwo]) ⟨hx, hb, hml, hown, hts⟩ (c_X11_number l D cI cZ cB H.size mx ms mk ma mo mg mm mt mn me mq mwo md mf mr ml mw mgl mhd mre mag mkt mho mpc msd mki mdn mun mtk msv P_ fa hml_ hmw hpc hfa hst_ hsd) (cwV 0 hts gX11_worth_X11_number rfl rfl rfl (by decide +kernel) ⟨Nat.le_of_ble_eq_true rfl, Nat.le_of_ble_eq_true rfl⟩) (kt_preV hN hK hPc hDc 0 (ci := 11) (q := (RX11, TX11, 29)) rfl rfl) rfl rfl hl.1 rfl (lv_room (Nat.le_of_ble_eq_true rfl)) dX11_worth_12 ⟨Nat.le_of_ble_eq_true rfl, Nat.le_of_ble_eq_true rfl⟩) (fun r_12 _ H locs hw_12 hP hS => ?_)
    have hi_1 : vp_in r_12 10000 := by exact kt_in (by omega) (by omega)
    refine va_iald hx hb hK hP 2 0 rfl rfl hi_1 dX11_worth_15 ?_
    refine lv_topi (fun a_15 ea_15 => ?_)
    refine lv_goto (tgt := 20) hx hb dX11_worth_16 (by decide) ?_
    exact kt_ri () hx hb hr hlk hS dX11_worth_20 hP hD (by show True; trivial)

theorem iw_X11_deep_X11 : ∀ w ∈ wsX110, w ∈ wsX11_deep := fun _ h => kt_wp_X11_deep__X110 h
set_option maxHeartbeats 4000000 in
set_option maxRecDepth 100000 in
theorem c_X11_deep (l : Launch) (D : va_G) (cI cZ cB : ClassId) (sz : Nat) (mx : Nat) (ms : Nat) (mk : Nat) (ma : Nat) (mo : Nat) (mg : Nat) (mm : Nat) (mt : Nat) (mn : Nat) (me : Nat) (mq : Nat) (mwo : Nat) (md : Nat) (mf : Nat) (mr : Nat) (ml : Int32) (mw : Int32) (mgl : Int32) (mhd : Int32) (mre : Int32) (mag : Int32) (mkt : Int32) (mho : Int32) (mpc : Int32) (msd : Int32) (mki : Int32) (mdn : Int32) (mun : Int32) (mtk : Int32) (msv : Int32) (P_ : Nat) (fa : Nat → Int32) (fo : Nat → Int32) (fr : Nat → Int32) (fk : Nat → Int32) (ft : Nat → Int32) (gs_ : Nat → Int32) (mv : Nat → Int32) (gd : Nat → Int32) (hml_ : 2 ≤ ml.toInt ∧ ml.toInt ≤ 9) (hmw : 2 ≤ mw.toInt ∧ mw.toInt ≤ 9) (hpi : ¬ mho.toInt = 0 → kt_PI ml mw mpc msd mki mdn mun mkt mhd fr fk fa fo mv gs_ P_) (hho : 0 ≤ mho.toInt ∧ mho.toInt ≤ 4) (hsv : ¬ msv.toInt = 0 → ¬ mho.toInt = 0 ∧ 2 * kt_pw (ml.toInt * mw.toInt + 1) P_ ≤ 10000) : kt_Mi l yX11_deep wsX11_deep { frames := 2, cells := 0, slots := 0, locals := 42 } D (kt_ty cI cZ cB) [.ref mx] sz [(mx, .inr (11, [.int ml, .int mw, .ref ms, .int mgl, .int mhd, .int mre, .int mag, .int mkt, .int mho, .int mpc, .int msd, .int mki, .ref mk, .ref ma, .ref mo, .ref mg, .ref mm, .ref mt, .int mdn, .int mun, .ref mn, .int mtk, .ref me, .ref mq, .int msv, .ref mwo, .ref md, .ref mf, .ref mr])), (ma, .inl (cI, 40, .inl fa)), (md, .inl (cI, 10000, .inl gd))] (fun (r : Int32) (u : Unit) => True) (fun (u : Unit) => [(mx, .inr (11, [.int ml, .int mw, .ref ms, .int mgl, .int mhd, .int mre, .int mag, .int mkt, .int mho, .int mpc, .int msd, .int mki, .ref mk, .ref ma, .ref mo, .ref mg, .ref mm, .ref mt, .int mdn, .int mun, .ref mn, .int mtk, .ref me, .ref mq, .int msv, .ref mwo, .ref md, .ref mf, .ref mr])), (ma, .inl (cI, 40, .inl fa)), (md, .inl (cI, 10000, .inl gd))]) 0 0 := by
  refine kt_Mi.of (cc := cX11_deep) (maxL := 1) (ret := some .int) (by decide) rfl (Nat.le_of_ble_eq_true rfl) ?_
  intro p e s m below meth c A ls H hAt hP hD hS hl
  obtain ⟨hx, hb, hr, hml, hown, hts, hN, hK, hlk, hnm, hA⟩ := hAt
  have hl : lv_has ls 1 [(0, .ref mx)] := hl
  have hown : s.vm.findClass RX11 = some m.cls := hown
  refine lv_aload_n hx hb dX11_deep_0 rfl (lv_at hl 0 rfl) ?_
  refine va_get (D := D) (ci := 11) (C := RX11) (T := TX11) (N := 29) hx hb hts iw_X11_deep_X11 hown hK hP 0 rfl rfl 24 (by decide) (hts (.fieldLink RX11 76 "KingTableModel" "solved" "Z") (List.mem_cons_of_mem _ (List.mem_append_left _ (List.Mem.head _)))) (fun _ h9 => h9) rfl dX11_deep_1 ?_
  refine lv_if_eq (tgt := 19) hx hb dX11_deep_4 (by decide) (fun c_4 => ?_) (fun c_4 => ?_)
  · have d_4 := c_4
    simp only [kt_lt, kt_le, kt_eq, kt_c0, kt_c1, kt_c2, kt_c3, kt_c4, kt_c8, kt_c9, kt_cm1, kt_c81, kt_c40, kt_c7, kt_c5, kt_c6, kt_c512, kt_c10, kt_c10000] at d_4
    refine lv_iconst (v := (-1)) hx hb dX11_deep_19 (by decide) ?_
    exact kt_ri () hx hb hr hlk hS dX11_deep_20 hP hD (by show True; trivial)
  · have d_4 := c_4
    simp only [kt_lt, kt_le, kt_eq, kt_c0, kt_c1, kt_c2, kt_c3, kt_c4, kt_c8, kt_c9, kt_cm1, kt_c81, kt_c40, kt_c7, kt_c5, kt_c6, kt_c512, kt_c10, kt_c10000] at d_4
    obtain ⟨hm0, hst_⟩ := hsv (by omega)
    have hpl := hpi hm0
    have hpl0 := hpl
    obtain ⟨⟨hpc, hki, hsd, hdn0, hun0⟩, ⟨hfa, hco, hcc⟩, hinj, hrows, hcut, hlgl⟩ := hpl
    have hpw1 := kt_pw_1 (B := (ml.toInt * mw.toInt + 1)) (by have := kt_mulb hml_ hmw; omega) P_
    refine lv_aload_n hx hb dX11_deep_7 rfl (lv_at hl 0 rfl) ?_
    refine va_get (D := D) (ci := 11) (C := RX11) (T := TX11) (N := 29) hx hb hts iw_X11_deep_X11 hown hK hP 0 rfl rfl 26 (by decide) (hts (.fieldLink RX11 60 "KingTableModel" "deeps" "[I") (List.mem_cons_of_mem _ (List.mem_append_left _ (List.mem_cons_of_mem _ (List.Mem.head _))))) (fun _ h9 => h9) rfl dX11_deep_8 ?_
    refine lv_aload_n hx hb dX11_deep_11 rfl (lv_at hl 0 rfl) ?_
    refine kt_pi (wc := [(mx, .inr (11, [.int ml, .int mw, .ref ms, .int mgl, .int mhd, .int mre, .int mag, .int mkt, .int mho, .int mpc, .int msd, .int mki, .ref mk, .ref ma, .ref mo, .ref mg, .ref mm, .ref mt, .int mdn, .int mun, .ref mn, .int mtk, .ref me, .ref mq, .int msv, .ref mwo, .ref md, .ref mf, .ref mr])), (ma, .inl (cI, 40, .inl fa))]) [0, 1] hP hD hS hA rfl (by decide) (fun hPc hDc => va_runV (As := []) (rest := [.ref md]) ⟨hx, hb, hml, hown, hts⟩ (c_X11_number l D cI cZ cB H.size mx ms mk ma mo mg mm mt mn me mq mwo md mf mr ml mw mgl mhd mre mag mkt mho mpc msd mki mdn mun mtk msv P_ fa hml_ hmw hpc hfa hst_ hsd) (cwV 0 hts gX11_deep_X11_number rfl rfl rfl (by decide +kernel) ⟨Nat.le_of_ble_eq_true rfl, Nat.le_of_ble_eq_true rfl⟩) (kt_preV hN hK hPc hDc 0 (ci := 11) (q := (RX11, TX11, 29)) rfl rfl) rfl rfl hl.1 rfl (lv_room (Nat.le_of_ble_eq_true rfl)) dX11_deep_12 ⟨Nat.le_of_ble_eq_true rfl, Nat.le_of_ble_eq_true rfl⟩) (fun r_12 _ H locs hw_12 hP hS => ?_)
    have hi_1 : vp_in r_12 10000 := by exact kt_in (by omega) (by omega)
    refine va_iald hx hb hK hP 2 0 rfl rfl hi_1 dX11_deep_15 ?_
    refine lv_topi (fun a_15 ea_15 => ?_)
    refine lv_goto (tgt := 20) hx hb dX11_deep_16 (by decide) ?_
    exact kt_ri () hx hb hr hlk hS dX11_deep_20 hP hD (by show True; trivial)

theorem iw_X11_count_X11 : ∀ w ∈ wsX110, w ∈ wsX11_count := fun _ h => kt_wp_X11_count__X110 h
set_option maxHeartbeats 4000000 in
set_option maxRecDepth 100000 in
theorem c_X11_count (l : Launch) (D : va_G) (cI cZ cB : ClassId) (sz : Nat) (mx : Nat) (ms : Nat) (mk : Nat) (ma : Nat) (mo : Nat) (mg : Nat) (mm : Nat) (mt : Nat) (mn : Nat) (me : Nat) (mq : Nat) (mwo : Nat) (md : Nat) (mf : Nat) (mr : Nat) (ml : Int32) (mw : Int32) (mgl : Int32) (mhd : Int32) (mre : Int32) (mag : Int32) (mkt : Int32) (mho : Int32) (mpc : Int32) (msd : Int32) (mki : Int32) (mdn : Int32) (mun : Int32) (mtk : Int32) (msv : Int32) (P_ : Nat) (fa : Nat → Int32) (fo : Nat → Int32) (fr : Nat → Int32) (fk : Nat → Int32) (ft : Nat → Int32) (gs_ : Nat → Int32) (mv : Nat → Int32) (gw : Nat → Int32) (p1 : Int32) (p2 : Int32) (hml_ : 2 ≤ ml.toInt ∧ ml.toInt ≤ 9) (hmw : 2 ≤ mw.toInt ∧ mw.toInt ≤ 9) (hpi : ¬ mho.toInt = 0 → kt_PI ml mw mpc msd mki mdn mun mkt mhd fr fk fa fo mv gs_ P_) (hho : 0 ≤ mho.toInt ∧ mho.toInt ≤ 4) (hsv : ¬ msv.toInt = 0 → ¬ mho.toInt = 0 ∧ 2 * kt_pw (ml.toInt * mw.toInt + 1) P_ ≤ 10000) : kt_Mi l yX11_count wsX11_count { frames := 2, cells := 0, slots := 0, locals := 43 } D (kt_ty cI cZ cB) [.ref mx, .int p1, .int p2] sz [(mx, .inr (11, [.int ml, .int mw, .ref ms, .int mgl, .int mhd, .int mre, .int mag, .int mkt, .int mho, .int mpc, .int msd, .int mki, .ref mk, .ref ma, .ref mo, .ref mg, .ref mm, .ref mt, .int mdn, .int mun, .ref mn, .int mtk, .ref me, .ref mq, .int msv, .ref mwo, .ref md, .ref mf, .ref mr])), (mwo, .inl (cI, 10000, .inl gw))] (fun (r : Int32) (u : Unit) => True) (fun (u : Unit) => [(mx, .inr (11, [.int ml, .int mw, .ref ms, .int mgl, .int mhd, .int mre, .int mag, .int mkt, .int mho, .int mpc, .int msd, .int mki, .ref mk, .ref ma, .ref mo, .ref mg, .ref mm, .ref mt, .int mdn, .int mun, .ref mn, .int mtk, .ref me, .ref mq, .int msv, .ref mwo, .ref md, .ref mf, .ref mr])), (mwo, .inl (cI, 10000, .inl gw))]) 0 0 := by
  refine kt_Mi.of (cc := cX11_count) (maxL := 5) (ret := some .int) (by decide) rfl (Nat.le_of_ble_eq_true rfl) ?_
  intro p e s m below meth c A ls H hAt hP hD hS hl
  obtain ⟨hx, hb, hr, hml, hown, hts, hN, hK, hlk, hnm, hA⟩ := hAt
  have hl : lv_has ls 5 [(0, .ref mx), (1, .int p1), (2, .int p2)] := hl
  have hown : s.vm.findClass RX11 = some m.cls := hown
  refine lv_aload_n hx hb dX11_count_0 rfl (lv_at hl 0 rfl) ?_
  refine va_get (D := D) (ci := 11) (C := RX11) (T := TX11) (N := 29) hx hb hts iw_X11_count_X11 hown hK hP 0 rfl rfl 24 (by decide) (hts (.fieldLink RX11 76 "KingTableModel" "solved" "Z") (List.mem_cons_of_mem _ (List.mem_append_left _ (List.Mem.head _)))) (fun _ h9 => h9) rfl dX11_count_1 ?_
  refine lv_if_eq (tgt := 25) hx hb dX11_count_4 (by decide) (fun c_4 => ?_) (fun c_4 => ?_)
  · have d_4 := c_4
    simp only [kt_lt, kt_le, kt_eq, kt_c0, kt_c1, kt_c2, kt_c3, kt_c4, kt_c8, kt_c9, kt_cm1, kt_c81, kt_c40, kt_c7, kt_c5, kt_c6, kt_c512, kt_c10, kt_c10000] at d_4
    refine lv_iconst (v := (-1)) hx hb dX11_count_25 (by decide) ?_
    exact kt_ri () hx hb hr hlk hS dX11_count_26 hP hD (by show True; trivial)
  · have d_4 := c_4
    simp only [kt_lt, kt_le, kt_eq, kt_c0, kt_c1, kt_c2, kt_c3, kt_c4, kt_c8, kt_c9, kt_cm1, kt_c81, kt_c40, kt_c7, kt_c5, kt_c6, kt_c512, kt_c10, kt_c10000] at d_4
    obtain ⟨hm0, hst_⟩ := hsv (by omega)
    have hpl := hpi hm0
    have hpl0 := hpl
    obtain ⟨⟨hpc, hki, hsd, hdn0, hun0⟩, ⟨hfa, hco, hcc⟩, hinj, hrows, hcut, hlgl⟩ := hpl
    have hpw1 := kt_pw_1 (B := (ml.toInt * mw.toInt + 1)) (by have := kt_mulb hml_ hmw; omega) P_
    refine lv_iload_n hx hb dX11_count_7 rfl (lv_at hl 1 rfl) ?_
    refine lv_iconst (v := 0) hx hb dX11_count_8 (by decide) ?_
    refine lv_iconst (v := 2) hx hb dX11_count_9 (by decide) ?_
    refine kt_pi (wc := []) [] hP hD hS hA rfl (by decide) (fun hPc hDc => va_runS (As := [.int p1, .int 0, .int 2]) (rest := []) ⟨hx, hb, hml, hown, hts⟩ (c_X11_isIn l D cI cZ cB H.size p1 0 2 ) (va_cwS 3 hts gX11_count_X11_isIn rfl rfl rfl (by decide +kernel) ⟨Nat.le_of_ble_eq_true rfl, Nat.le_of_ble_eq_true rfl⟩) (kt_preS hN hK hPc hDc) rfl rfl hl.1 rfl (lv_room (Nat.le_of_ble_eq_true rfl)) dX11_count_10 ⟨Nat.le_of_ble_eq_true rfl, Nat.le_of_ble_eq_true rfl⟩) (fun r_10 _ H locs hw_10 hP hS => ?_)
    refine lv_if_eq (tgt := 25) hx hb dX11_count_13 (by decide) (fun c_13 => ?_) (fun c_13 => ?_)
    · have d_13 := c_13
      simp only [kt_lt, kt_le, kt_eq, kt_c0, kt_c1, kt_c2, kt_c3, kt_c4, kt_c8, kt_c9, kt_cm1, kt_c81, kt_c40, kt_c7, kt_c5, kt_c6, kt_c512, kt_c10, kt_c10000] at d_13
      refine lv_iconst (v := (-1)) hx hb dX11_count_25 (by decide) ?_
      exact kt_ri () hx hb hr hlk hS dX11_count_26 hP hD (by show True; trivial)
    · have d_13 := c_13
      simp only [kt_lt, kt_le, kt_eq, kt_c0, kt_c1, kt_c2, kt_c3, kt_c4, kt_c8, kt_c9, kt_cm1, kt_c81, kt_c40, kt_c7, kt_c5, kt_c6, kt_c512, kt_c10, kt_c10000] at d_13
      refine lv_iload_n hx hb dX11_count_16 rfl (lv_at hl 2 rfl) ?_
      refine lv_iconst (v := 0) hx hb dX11_count_17 (by decide) ?_
      refine lv_iconst (v := 1) hx hb dX11_count_18 (by decide) ?_
      refine kt_pi (wc := []) [] hP hD hS hA rfl (by decide) (fun hPc hDc => va_runS (As := [.int p2, .int 0, .int 1]) (rest := []) ⟨hx, hb, hml, hown, hts⟩ (c_X11_isIn l D cI cZ cB H.size p2 0 1 ) (va_cwS 3 hts gX11_count_X11_isIn rfl rfl rfl (by decide +kernel) ⟨Nat.le_of_ble_eq_true rfl, Nat.le_of_ble_eq_true rfl⟩) (kt_preS hN hK hPc hDc) rfl rfl hl.1 rfl (lv_room (Nat.le_of_ble_eq_true rfl)) dX11_count_19 ⟨Nat.le_of_ble_eq_true rfl, Nat.le_of_ble_eq_true rfl⟩) (fun r_19 _ H locs hw_19 hP hS => ?_)
      refine lv_if_ne (tgt := 27) hx hb dX11_count_22 (by decide) (fun c_22 => ?_) (fun c_22 => ?_)
      · have d_22 := c_22
        simp only [kt_lt, kt_le, kt_eq, kt_c0, kt_c1, kt_c2, kt_c3, kt_c4, kt_c8, kt_c9, kt_cm1, kt_c81, kt_c40, kt_c7, kt_c5, kt_c6, kt_c512, kt_c10, kt_c10000] at d_22
        have hq2 := hw_19.t c_22
        rw [kt_c0, kt_c1] at hq2
        refine lv_iconst (v := 0) hx hb dX11_count_27 (by decide) ?_
        refine lv_istore_n (lv' := [(3, .int 0), (0, .ref mx), (1, .int p1), (2, .int p2)]) hx hb dX11_count_28 rfl hl (by decide) rfl (fun ls hl => ?_)
        refine lv_iload_n hx hb dX11_count_29 rfl (lv_at hl 3 rfl) ?_
        refine lv_istore (lv' := [(4, .int p2), (3, .int 0), (0, .ref mx), (1, .int p1), (2, .int p2)]) hx hb dX11_count_30 hl (by decide) rfl (fun ls hl => ?_)
        refine kt_loop (σ := Int32 × Int32) 32 5 (fun u => [(mx, .inr (11, [.int ml, .int mw, .ref ms, .int mgl, .int mhd, .int mre, .int mag, .int mkt, .int mho, .int mpc, .int msd, .int mki, .ref mk, .ref ma, .ref mo, .ref mg, .ref mm, .ref mt, .int mdn, .int mun, .ref mn, .int mtk, .ref me, .ref mq, .int msv, .ref mwo, .ref md, .ref mf, .ref mr])), (mwo, .inl (cI, 10000, .inl gw))]) (fun u => [(4, .int u.1), (3, .int u.2), (0, .ref mx), (1, .int p1), (2, .int p2)]) (fun n u => 0 ≤ u.1.toInt ∧ u.1.toInt ≤ 10002 ∧ 10002 < u.1.toInt + n) (fun u h => by omega) (fun n_32 ih_32 u hI H locs hP hD hS ls hl => ?_) (10003) (p2, (0 : Int32)) (by show 0 ≤ p2.toInt ∧ p2.toInt ≤ 10002 ∧ 10002 < p2.toInt + 10003; omega) hP hD hS (lv_sub hl [0, 1, 2, 3, 4] rfl)
        obtain ⟨s_, c_⟩ := u
        have hP : va_P D vwCl [(mx, .inr (11, [.int ml, .int mw, .ref ms, .int mgl, .int mhd, .int mre, .int mag, .int mkt, .int mho, .int mpc, .int msd, .int mki, .ref mk, .ref ma, .ref mo, .ref mg, .ref mm, .ref mt, .int mdn, .int mun, .ref mn, .int mtk, .ref me, .ref mq, .int msv, .ref mwo, .ref md, .ref mf, .ref mr])), (mwo, .inl (cI, 10000, .inl gw))] H := hP
        have hD : va_D A [(mx, .inr (11, [.int ml, .int mw, .ref ms, .int mgl, .int mhd, .int mre, .int mag, .int mkt, .int mho, .int mpc, .int msd, .int mki, .ref mk, .ref ma, .ref mo, .ref mg, .ref mm, .ref mt, .int mdn, .int mun, .ref mn, .int mtk, .ref me, .ref mq, .int msv, .ref mwo, .ref md, .ref mf, .ref mr])), (mwo, .inl (cI, 10000, .inl gw))] := hD
        have hl : lv_has ls 5 [(4, .int s_), (3, .int c_), (0, .ref mx), (1, .int p1), (2, .int p2)] := hl
        have hI : 0 ≤ s_.toInt ∧ s_.toInt ≤ 10002 ∧ 10002 < s_.toInt + (n_32 + 1) := hI
        refine lv_iload hx hb dX11_count_32 (lv_at hl 0 rfl) ?_
        refine lv_i2l hx hb dX11_count_34 rfl ?_
        refine lv_topl (fun t_34 et_34 => ?_)
        have hk_34 : t_34.toInt = s_.toInt := by rw [et_34]; exact Int32.toInt_toInt64 _
        refine lv_aload_n hx hb dX11_count_35 rfl (lv_at hl 2 rfl) ?_
        refine kt_pl (wc := [(mx, .inr (11, [.int ml, .int mw, .ref ms, .int mgl, .int mhd, .int mre, .int mag, .int mkt, .int mho, .int mpc, .int msd, .int mki, .ref mk, .ref ma, .ref mo, .ref mg, .ref mm, .ref mt, .int mdn, .int mun, .ref mn, .int mtk, .ref me, .ref mq, .int msv, .ref mwo, .ref md, .ref mf, .ref mr]))]) [0] hP hD hS hA rfl (by decide) (fun hPc hDc => va_runV (As := []) (rest := [.long t_34]) ⟨hx, hb, hml, hown, hts⟩ (c_X11_stands l D cI cZ cB H.size mx ms mk ma mo mg mm mt mn me mq mwo md mf mr ml mw mgl mhd mre mag mkt mho mpc msd mki mdn mun mtk msv P_ hml_ hmw hpc) (cwV 0 hts gX11_count_X11_stands rfl rfl rfl (by decide +kernel) ⟨Nat.le_of_ble_eq_true rfl, Nat.le_of_ble_eq_true rfl⟩) (kt_preV hN hK hPc hDc 0 (ci := 11) (q := (RX11, TX11, 29)) rfl rfl) rfl rfl hl.1 rfl (lv_room (Nat.le_of_ble_eq_true rfl)) dX11_count_36 ⟨Nat.le_of_ble_eq_true rfl, Nat.le_of_ble_eq_true rfl⟩) (fun r_36 _ H locs hw_36 hP hS => ?_)
        refine W.lcmp hx hb dX11_count_39 ?_
        refine lv_topi (fun t_39 et_39 => ?_)
        have hk_39 := kt_lcmp et_39
        refine lv_if_ge (tgt := 68) hx hb dX11_count_40 (by decide) (fun c_40 => ?_) (fun c_40 => ?_)
        · have d_40 := c_40
          simp only [kt_lt, kt_le, kt_eq, kt_c0, kt_c1, kt_c2, kt_c3, kt_c4, kt_c8, kt_c9, kt_cm1, kt_c81, kt_c40, kt_c7, kt_c5, kt_c6, kt_c512, kt_c10, kt_c10000] at d_40
          refine lv_iload_n hx hb dX11_count_68 rfl (lv_at hl 1 rfl) ?_
          exact kt_ri () hx hb hr hlk hS dX11_count_69 hP hD (by show True; trivial)
        · have d_40 := c_40
          simp only [kt_lt, kt_le, kt_eq, kt_c0, kt_c1, kt_c2, kt_c3, kt_c4, kt_c8, kt_c9, kt_cm1, kt_c81, kt_c40, kt_c7, kt_c5, kt_c6, kt_c512, kt_c10, kt_c10000] at d_40
          refine lv_iload_n hx hb dX11_count_43 rfl (lv_at hl 1 rfl) ?_
          refine lv_aload_n hx hb dX11_count_44 rfl (lv_at hl 2 rfl) ?_
          refine va_get (D := D) (ci := 11) (C := RX11) (T := TX11) (N := 29) hx hb hts iw_X11_count_X11 hown hK hP 0 rfl rfl 25 (by decide) (hts (.fieldLink RX11 57 "KingTableModel" "worths" "[I") (List.mem_cons_of_mem _ (List.mem_append_left _ (List.mem_cons_of_mem _ (List.Mem.head _))))) (fun _ h9 => h9) rfl dX11_count_45 ?_
          refine lv_iload hx hb dX11_count_48 (lv_at hl 0 rfl) ?_
          have hi_1 : vp_in s_ 10000 := by exact kt_in (by omega) (by omega)
          refine va_iald hx hb hK hP 1 0 rfl rfl hi_1 dX11_count_50 ?_
          refine lv_topi (fun a_50 ea_50 => ?_)
          refine lv_iload_n hx hb dX11_count_51 rfl (lv_at hl 3 rfl) ?_
          refine kt_join (σ := Int32) 60 5 (fun u => [(mx, .inr (11, [.int ml, .int mw, .ref ms, .int mgl, .int mhd, .int mre, .int mag, .int mkt, .int mho, .int mpc, .int msd, .int mki, .ref mk, .ref ma, .ref mo, .ref mg, .ref mm, .ref mt, .int mdn, .int mun, .ref mn, .int mtk, .ref me, .ref mq, .int msv, .ref mwo, .ref md, .ref mf, .ref mr])), (mwo, .inl (cI, 10000, .inl gw))]) (fun u => [(4, .int s_), (3, .int c_), (0, .ref mx), (1, .int p1), (2, .int p2)]) (fun u => [.int u, .int c_]) (fun u => True) (D := D) (A := A) (H0 := s.heap) (fun u hI H locs hP hD hS ls hl => ?_) (fun j_60 => ?_)
          · obtain ⟨v, rfl⟩ : ∃ z, z = u := ⟨_, rfl⟩
            have hP : va_P D vwCl [(mx, .inr (11, [.int ml, .int mw, .ref ms, .int mgl, .int mhd, .int mre, .int mag, .int mkt, .int mho, .int mpc, .int msd, .int mki, .ref mk, .ref ma, .ref mo, .ref mg, .ref mm, .ref mt, .int mdn, .int mun, .ref mn, .int mtk, .ref me, .ref mq, .int msv, .ref mwo, .ref md, .ref mf, .ref mr])), (mwo, .inl (cI, 10000, .inl gw))] H := hP
            have hD : va_D A [(mx, .inr (11, [.int ml, .int mw, .ref ms, .int mgl, .int mhd, .int mre, .int mag, .int mkt, .int mho, .int mpc, .int msd, .int mki, .ref mk, .ref ma, .ref mo, .ref mg, .ref mm, .ref mt, .int mdn, .int mun, .ref mn, .int mtk, .ref me, .ref mq, .int msv, .ref mwo, .ref md, .ref mf, .ref mr])), (mwo, .inl (cI, 10000, .inl gw))] := hD
            have hl : lv_has ls 5 [(4, .int s_), (3, .int c_), (0, .ref mx), (1, .int p1), (2, .int p2)] := hl
            refine lv_iadd hx hb dX11_count_60 ?_
            refine lv_topi (fun t_60 et_60 => ?_)
            first | have hk_60 := kt_addx et_60 (by first | omega | (simp only [kt_c0, kt_c1, kt_c2, kt_c3, kt_c4, kt_c8, kt_c9, kt_cm1, kt_c81, kt_c40, kt_c7, kt_c5, kt_c6, kt_c512, kt_c10, kt_c10000]; omega)) (by first | omega | (simp only [kt_c0, kt_c1, kt_c2, kt_c3, kt_c4, kt_c8, kt_c9, kt_cm1, kt_c81, kt_c40, kt_c7, kt_c5, kt_c6, kt_c512, kt_c10, kt_c10000]; omega)) | obtain ⟨k_60, hk_60, hm_60, hM_60⟩ := kt_addk et_60
            refine lv_istore_n (lv' := [(3, .int t_60), (4, .int s_), (0, .ref mx), (1, .int p1), (2, .int p2)]) hx hb dX11_count_61 rfl hl (by decide) rfl (fun ls hl => ?_)
            obtain ⟨t_62, et_62⟩ : ∃ y : Int32, y = s_ + 2 := ⟨_, rfl⟩
            obtain ⟨k_62, hk_62, hm_62, hM_62⟩ := kt_addk et_62
            try simp only [kt_c0, kt_c1, kt_c2, kt_c3, kt_c4, kt_c8, kt_c9, kt_cm1, kt_c81, kt_c40, kt_c7, kt_c5, kt_c6, kt_c512, kt_c10, kt_c10000] at hk_62
            refine lv_iinc (v := t_62) (lv' := [(4, .int t_62), (3, .int t_60), (0, .ref mx), (1, .int p1), (2, .int p2)]) hx hb dX11_count_62 hl (k := 1) rfl (by rw [et_62]; rfl) (by decide) rfl (fun ls hl => ?_)
            refine lv_goto (tgt := 32) hx hb dX11_count_65 (by decide) ?_
            exact ih_32 (t_62, t_60) (by show 0 ≤ t_62.toInt ∧ t_62.toInt ≤ 10002 ∧ 10002 < t_62.toInt + n_32; omega) H _ hP hD hS ls (lv_sub hl [0, 1, 2, 3, 4] rfl)
          refine lv_icmp_ne (tgt := 59) hx hb dX11_count_52 (by decide) (fun c_52 => ?_) (fun c_52 => ?_)
          · have d_52 := c_52
            simp only [kt_lt, kt_le, kt_eq, kt_c0, kt_c1, kt_c2, kt_c3, kt_c4, kt_c8, kt_c9, kt_cm1, kt_c81, kt_c40, kt_c7, kt_c5, kt_c6, kt_c512, kt_c10, kt_c10000] at d_52
            refine lv_iconst (v := 0) hx hb dX11_count_59 (by decide) ?_
            exact j_60 (0 : Int32) (by trivial) H _ hP hD hS ls (lv_sub hl [0, 1, 2, 3, 4] rfl)
          · have d_52 := c_52
            simp only [kt_lt, kt_le, kt_eq, kt_c0, kt_c1, kt_c2, kt_c3, kt_c4, kt_c8, kt_c9, kt_cm1, kt_c81, kt_c40, kt_c7, kt_c5, kt_c6, kt_c512, kt_c10, kt_c10000] at d_52
            refine lv_iconst (v := 1) hx hb dX11_count_55 (by decide) ?_
            refine lv_goto (tgt := 60) hx hb dX11_count_56 (by decide) ?_
            exact j_60 (1 : Int32) (by trivial) H _ hP hD hS ls (lv_sub hl [0, 1, 2, 3, 4] rfl)
      · have d_22 := c_22
        simp only [kt_lt, kt_le, kt_eq, kt_c0, kt_c1, kt_c2, kt_c3, kt_c4, kt_c8, kt_c9, kt_cm1, kt_c81, kt_c40, kt_c7, kt_c5, kt_c6, kt_c512, kt_c10, kt_c10000] at d_22
        refine lv_iconst (v := (-1)) hx hb dX11_count_25 (by decide) ?_
        exact kt_ri () hx hb hr hlk hS dX11_count_26 hP hD (by show True; trivial)

theorem iw_X11_most_X11 : ∀ w ∈ wsX110, w ∈ wsX11_most := fun _ h => kt_wp_X11_most__X110 h
set_option maxHeartbeats 4000000 in
set_option maxRecDepth 100000 in
theorem c_X11_most (l : Launch) (D : va_G) (cI cZ cB : ClassId) (sz : Nat) (mx : Nat) (ms : Nat) (mk : Nat) (ma : Nat) (mo : Nat) (mg : Nat) (mm : Nat) (mt : Nat) (mn : Nat) (me : Nat) (mq : Nat) (mwo : Nat) (md : Nat) (mf : Nat) (mr : Nat) (ml : Int32) (mw : Int32) (mgl : Int32) (mhd : Int32) (mre : Int32) (mag : Int32) (mkt : Int32) (mho : Int32) (mpc : Int32) (msd : Int32) (mki : Int32) (mdn : Int32) (mun : Int32) (mtk : Int32) (msv : Int32) (P_ : Nat) (fa : Nat → Int32) (fo : Nat → Int32) (fr : Nat → Int32) (fk : Nat → Int32) (ft : Nat → Int32) (gs_ : Nat → Int32) (mv : Nat → Int32) (gw : Nat → Int32) (gd : Nat → Int32) (p1 : Int32) (hml_ : 2 ≤ ml.toInt ∧ ml.toInt ≤ 9) (hmw : 2 ≤ mw.toInt ∧ mw.toInt ≤ 9) (hpi : ¬ mho.toInt = 0 → kt_PI ml mw mpc msd mki mdn mun mkt mhd fr fk fa fo mv gs_ P_) (hho : 0 ≤ mho.toInt ∧ mho.toInt ≤ 4) (hsv : ¬ msv.toInt = 0 → ¬ mho.toInt = 0 ∧ 2 * kt_pw (ml.toInt * mw.toInt + 1) P_ ≤ 10000) : kt_Mi l yX11_most wsX11_most { frames := 2, cells := 0, slots := 0, locals := 43 } D (kt_ty cI cZ cB) [.ref mx, .int p1] sz [(mx, .inr (11, [.int ml, .int mw, .ref ms, .int mgl, .int mhd, .int mre, .int mag, .int mkt, .int mho, .int mpc, .int msd, .int mki, .ref mk, .ref ma, .ref mo, .ref mg, .ref mm, .ref mt, .int mdn, .int mun, .ref mn, .int mtk, .ref me, .ref mq, .int msv, .ref mwo, .ref md, .ref mf, .ref mr])), (mwo, .inl (cI, 10000, .inl gw)), (md, .inl (cI, 10000, .inl gd))] (fun (r : Int32) (u : Unit) => True) (fun (u : Unit) => [(mx, .inr (11, [.int ml, .int mw, .ref ms, .int mgl, .int mhd, .int mre, .int mag, .int mkt, .int mho, .int mpc, .int msd, .int mki, .ref mk, .ref ma, .ref mo, .ref mg, .ref mm, .ref mt, .int mdn, .int mun, .ref mn, .int mtk, .ref me, .ref mq, .int msv, .ref mwo, .ref md, .ref mf, .ref mr])), (mwo, .inl (cI, 10000, .inl gw)), (md, .inl (cI, 10000, .inl gd))]) 0 0 := by
  refine kt_Mi.of (cc := cX11_most) (maxL := 4) (ret := some .int) (by decide) rfl (Nat.le_of_ble_eq_true rfl) ?_
  intro p e s m below meth c A ls H hAt hP hD hS hl
  obtain ⟨hx, hb, hr, hml, hown, hts, hN, hK, hlk, hnm, hA⟩ := hAt
  have hl : lv_has ls 4 [(0, .ref mx), (1, .int p1)] := hl
  have hown : s.vm.findClass RX11 = some m.cls := hown
  refine lv_aload_n hx hb dX11_most_0 rfl (lv_at hl 0 rfl) ?_
  refine va_get (D := D) (ci := 11) (C := RX11) (T := TX11) (N := 29) hx hb hts iw_X11_most_X11 hown hK hP 0 rfl rfl 24 (by decide) (hts (.fieldLink RX11 76 "KingTableModel" "solved" "Z") (List.mem_cons_of_mem _ (List.mem_append_left _ (List.Mem.head _)))) (fun _ h9 => h9) rfl dX11_most_1 ?_
  refine lv_if_eq (tgt := 16) hx hb dX11_most_4 (by decide) (fun c_4 => ?_) (fun c_4 => ?_)
  · have d_4 := c_4
    simp only [kt_lt, kt_le, kt_eq, kt_c0, kt_c1, kt_c2, kt_c3, kt_c4, kt_c8, kt_c9, kt_cm1, kt_c81, kt_c40, kt_c7, kt_c5, kt_c6, kt_c512, kt_c10, kt_c10000] at d_4
    refine lv_iconst (v := (-1)) hx hb dX11_most_16 (by decide) ?_
    exact kt_ri () hx hb hr hlk hS dX11_most_17 hP hD (by show True; trivial)
  · have d_4 := c_4
    simp only [kt_lt, kt_le, kt_eq, kt_c0, kt_c1, kt_c2, kt_c3, kt_c4, kt_c8, kt_c9, kt_cm1, kt_c81, kt_c40, kt_c7, kt_c5, kt_c6, kt_c512, kt_c10, kt_c10000] at d_4
    obtain ⟨hm0, hst_⟩ := hsv (by omega)
    have hpl := hpi hm0
    have hpl0 := hpl
    obtain ⟨⟨hpc, hki, hsd, hdn0, hun0⟩, ⟨hfa, hco, hcc⟩, hinj, hrows, hcut, hlgl⟩ := hpl
    have hpw1 := kt_pw_1 (B := (ml.toInt * mw.toInt + 1)) (by have := kt_mulb hml_ hmw; omega) P_
    refine lv_iload_n hx hb dX11_most_7 rfl (lv_at hl 1 rfl) ?_
    refine lv_iconst (v := 0) hx hb dX11_most_8 (by decide) ?_
    refine lv_iconst (v := 1) hx hb dX11_most_9 (by decide) ?_
    refine kt_pi (wc := []) [] hP hD hS hA rfl (by decide) (fun hPc hDc => va_runS (As := [.int p1, .int 0, .int 1]) (rest := []) ⟨hx, hb, hml, hown, hts⟩ (c_X11_isIn l D cI cZ cB H.size p1 0 1 ) (va_cwS 3 hts gX11_most_X11_isIn rfl rfl rfl (by decide +kernel) ⟨Nat.le_of_ble_eq_true rfl, Nat.le_of_ble_eq_true rfl⟩) (kt_preS hN hK hPc hDc) rfl rfl hl.1 rfl (lv_room (Nat.le_of_ble_eq_true rfl)) dX11_most_10 ⟨Nat.le_of_ble_eq_true rfl, Nat.le_of_ble_eq_true rfl⟩) (fun r_10 _ H locs hw_10 hP hS => ?_)
    refine lv_if_ne (tgt := 18) hx hb dX11_most_13 (by decide) (fun c_13 => ?_) (fun c_13 => ?_)
    · have d_13 := c_13
      simp only [kt_lt, kt_le, kt_eq, kt_c0, kt_c1, kt_c2, kt_c3, kt_c4, kt_c8, kt_c9, kt_cm1, kt_c81, kt_c40, kt_c7, kt_c5, kt_c6, kt_c512, kt_c10, kt_c10000] at d_13
      refine lv_iconst (v := (-1)) hx hb dX11_most_18 (by decide) ?_
      refine lv_istore_n (lv' := [(2, .int (-1)), (0, .ref mx), (1, .int p1)]) hx hb dX11_most_19 rfl hl (by decide) rfl (fun ls hl => ?_)
      refine lv_iconst (v := 0) hx hb dX11_most_20 (by decide) ?_
      refine lv_istore_n (lv' := [(3, .int 0), (2, .int (-1)), (0, .ref mx), (1, .int p1)]) hx hb dX11_most_21 rfl hl (by decide) rfl (fun ls hl => ?_)
      refine kt_loop (σ := Int32 × Int32) 22 4 (fun u => [(mx, .inr (11, [.int ml, .int mw, .ref ms, .int mgl, .int mhd, .int mre, .int mag, .int mkt, .int mho, .int mpc, .int msd, .int mki, .ref mk, .ref ma, .ref mo, .ref mg, .ref mm, .ref mt, .int mdn, .int mun, .ref mn, .int mtk, .ref me, .ref mq, .int msv, .ref mwo, .ref md, .ref mf, .ref mr])), (mwo, .inl (cI, 10000, .inl gw)), (md, .inl (cI, 10000, .inl gd))]) (fun u => [(3, .int u.1), (2, .int u.2), (0, .ref mx), (1, .int p1)]) (fun n u => 0 ≤ u.1.toInt ∧ u.1.toInt ≤ 10002 ∧ 10002 < u.1.toInt + n) (fun u h => by omega) (fun n_22 ih_22 u hI H locs hP hD hS ls hl => ?_) (10003) ((0 : Int32), (-1 : Int32)) (by show 0 ≤ (0 : Int32).toInt ∧ (0 : Int32).toInt ≤ 10002 ∧ 10002 < (0 : Int32).toInt + 10003; decide) hP hD hS (lv_sub hl [0, 1, 2, 3] rfl)
      obtain ⟨s_, c_⟩ := u
      have hP : va_P D vwCl [(mx, .inr (11, [.int ml, .int mw, .ref ms, .int mgl, .int mhd, .int mre, .int mag, .int mkt, .int mho, .int mpc, .int msd, .int mki, .ref mk, .ref ma, .ref mo, .ref mg, .ref mm, .ref mt, .int mdn, .int mun, .ref mn, .int mtk, .ref me, .ref mq, .int msv, .ref mwo, .ref md, .ref mf, .ref mr])), (mwo, .inl (cI, 10000, .inl gw)), (md, .inl (cI, 10000, .inl gd))] H := hP
      have hD : va_D A [(mx, .inr (11, [.int ml, .int mw, .ref ms, .int mgl, .int mhd, .int mre, .int mag, .int mkt, .int mho, .int mpc, .int msd, .int mki, .ref mk, .ref ma, .ref mo, .ref mg, .ref mm, .ref mt, .int mdn, .int mun, .ref mn, .int mtk, .ref me, .ref mq, .int msv, .ref mwo, .ref md, .ref mf, .ref mr])), (mwo, .inl (cI, 10000, .inl gw)), (md, .inl (cI, 10000, .inl gd))] := hD
      have hl : lv_has ls 4 [(3, .int s_), (2, .int c_), (0, .ref mx), (1, .int p1)] := hl
      have hI : 0 ≤ s_.toInt ∧ s_.toInt ≤ 10002 ∧ 10002 < s_.toInt + (n_22 + 1) := hI
      refine lv_iload_n hx hb dX11_most_22 rfl (lv_at hl 0 rfl) ?_
      refine lv_i2l hx hb dX11_most_23 rfl ?_
      refine lv_topl (fun t_23 et_23 => ?_)
      have hk_23 : t_23.toInt = s_.toInt := by rw [et_23]; exact Int32.toInt_toInt64 _
      refine lv_aload_n hx hb dX11_most_24 rfl (lv_at hl 2 rfl) ?_
      refine kt_pl (wc := [(mx, .inr (11, [.int ml, .int mw, .ref ms, .int mgl, .int mhd, .int mre, .int mag, .int mkt, .int mho, .int mpc, .int msd, .int mki, .ref mk, .ref ma, .ref mo, .ref mg, .ref mm, .ref mt, .int mdn, .int mun, .ref mn, .int mtk, .ref me, .ref mq, .int msv, .ref mwo, .ref md, .ref mf, .ref mr]))]) [0] hP hD hS hA rfl (by decide) (fun hPc hDc => va_runV (As := []) (rest := [.long t_23]) ⟨hx, hb, hml, hown, hts⟩ (c_X11_stands l D cI cZ cB H.size mx ms mk ma mo mg mm mt mn me mq mwo md mf mr ml mw mgl mhd mre mag mkt mho mpc msd mki mdn mun mtk msv P_ hml_ hmw hpc) (cwV 0 hts gX11_most_X11_stands rfl rfl rfl (by decide +kernel) ⟨Nat.le_of_ble_eq_true rfl, Nat.le_of_ble_eq_true rfl⟩) (kt_preV hN hK hPc hDc 0 (ci := 11) (q := (RX11, TX11, 29)) rfl rfl) rfl rfl hl.1 rfl (lv_room (Nat.le_of_ble_eq_true rfl)) dX11_most_25 ⟨Nat.le_of_ble_eq_true rfl, Nat.le_of_ble_eq_true rfl⟩) (fun r_25 _ H locs hw_25 hP hS => ?_)
      refine W.lcmp hx hb dX11_most_28 ?_
      refine lv_topi (fun t_28 et_28 => ?_)
      have hk_28 := kt_lcmp et_28
      refine lv_if_ge (tgt := 59) hx hb dX11_most_29 (by decide) (fun c_29 => ?_) (fun c_29 => ?_)
      · have d_29 := c_29
        simp only [kt_lt, kt_le, kt_eq, kt_c0, kt_c1, kt_c2, kt_c3, kt_c4, kt_c8, kt_c9, kt_cm1, kt_c81, kt_c40, kt_c7, kt_c5, kt_c6, kt_c512, kt_c10, kt_c10000] at d_29
        refine lv_iload_n hx hb dX11_most_59 rfl (lv_at hl 1 rfl) ?_
        exact kt_ri () hx hb hr hlk hS dX11_most_60 hP hD (by show True; trivial)
      · have d_29 := c_29
        simp only [kt_lt, kt_le, kt_eq, kt_c0, kt_c1, kt_c2, kt_c3, kt_c4, kt_c8, kt_c9, kt_cm1, kt_c81, kt_c40, kt_c7, kt_c5, kt_c6, kt_c512, kt_c10, kt_c10000] at d_29
        refine lv_aload_n hx hb dX11_most_32 rfl (lv_at hl 2 rfl) ?_
        refine va_get (D := D) (ci := 11) (C := RX11) (T := TX11) (N := 29) hx hb hts iw_X11_most_X11 hown hK hP 0 rfl rfl 25 (by decide) (hts (.fieldLink RX11 57 "KingTableModel" "worths" "[I") (List.mem_cons_of_mem _ (List.mem_append_left _ (List.mem_cons_of_mem _ (List.Mem.head _))))) (fun _ h9 => h9) rfl dX11_most_33 ?_
        refine lv_iload_n hx hb dX11_most_36 rfl (lv_at hl 0 rfl) ?_
        have hi_1 : vp_in s_ 10000 := by exact kt_in (by omega) (by omega)
        refine va_iald hx hb hK hP 1 0 rfl rfl hi_1 dX11_most_37 ?_
        refine lv_topi (fun a_37 ea_37 => ?_)
        refine lv_iload_n hx hb dX11_most_38 rfl (lv_at hl 3 rfl) ?_
        refine lv_icmp_ne (tgt := 53) hx hb dX11_most_39 (by decide) (fun c_39 => ?_) (fun c_39 => ?_)
        · have d_39 := c_39
          simp only [kt_lt, kt_le, kt_eq, kt_c0, kt_c1, kt_c2, kt_c3, kt_c4, kt_c8, kt_c9, kt_cm1, kt_c81, kt_c40, kt_c7, kt_c5, kt_c6, kt_c512, kt_c10, kt_c10000] at d_39
          obtain ⟨t_53, et_53⟩ : ∃ y : Int32, y = s_ + 1 := ⟨_, rfl⟩
          obtain ⟨k_53, hk_53, hm_53, hM_53⟩ := kt_addk et_53
          try simp only [kt_c0, kt_c1, kt_c2, kt_c3, kt_c4, kt_c8, kt_c9, kt_cm1, kt_c81, kt_c40, kt_c7, kt_c5, kt_c6, kt_c512, kt_c10, kt_c10000] at hk_53
          refine lv_iinc (v := t_53) (lv' := [(3, .int t_53), (2, .int c_), (0, .ref mx), (1, .int p1)]) hx hb dX11_most_53 hl (k := 0) rfl (by rw [et_53]; rfl) (by decide) rfl (fun ls hl => ?_)
          refine lv_goto (tgt := 22) hx hb dX11_most_56 (by decide) ?_
          exact ih_22 (t_53, c_) (by show 0 ≤ t_53.toInt ∧ t_53.toInt ≤ 10002 ∧ 10002 < t_53.toInt + n_22; omega) H _ hP hD hS ls (lv_sub hl [0, 1, 2, 3] rfl)
        · have d_39 := c_39
          simp only [kt_lt, kt_le, kt_eq, kt_c0, kt_c1, kt_c2, kt_c3, kt_c4, kt_c8, kt_c9, kt_cm1, kt_c81, kt_c40, kt_c7, kt_c5, kt_c6, kt_c512, kt_c10, kt_c10000] at d_39
          refine lv_iload_n hx hb dX11_most_42 rfl (lv_at hl 1 rfl) ?_
          refine lv_aload_n hx hb dX11_most_43 rfl (lv_at hl 2 rfl) ?_
          refine va_get (D := D) (ci := 11) (C := RX11) (T := TX11) (N := 29) hx hb hts iw_X11_most_X11 hown hK hP 0 rfl rfl 26 (by decide) (hts (.fieldLink RX11 60 "KingTableModel" "deeps" "[I") (List.mem_cons_of_mem _ (List.mem_append_left _ (List.mem_cons_of_mem _ (List.mem_cons_of_mem _ (List.Mem.head _)))))) (fun _ h9 => h9) rfl dX11_most_44 ?_
          refine lv_iload_n hx hb dX11_most_47 rfl (lv_at hl 0 rfl) ?_
          have hi_2 : vp_in s_ 10000 := by exact kt_in (by omega) (by omega)
          refine va_iald hx hb hK hP 2 0 rfl rfl hi_2 dX11_most_48 ?_
          refine lv_topi (fun a_48 ea_48 => ?_)
          refine va_mmax hx hb (by rw [hml]; exact hl.1.symm) hown (hts (.methodLink RX11 204 Lib.Math.max.name) (List.mem_cons_of_mem _ (List.mem_append_left _ (List.mem_cons_of_mem _ (List.mem_cons_of_mem _ (List.mem_cons_of_mem _ (List.Mem.head _))))))) (hts (.static Lib.Math.max.name) (List.mem_cons_of_mem _ (List.mem_append_left _ (List.mem_cons_of_mem _ (List.mem_cons_of_mem _ (List.mem_cons_of_mem _ (List.mem_cons_of_mem _ (List.Mem.head _)))))))) (hts (.initialized "java/lang/Math") (List.mem_cons_of_mem _ (List.mem_append_left _ (List.mem_cons_of_mem _ (List.mem_cons_of_mem _ (List.mem_cons_of_mem _ (List.mem_cons_of_mem _ (List.mem_cons_of_mem _ (List.Mem.head _))))))))) (hts (.code Lib.Math.max.name Lib.Math.max.code 2 (some .int)) (List.mem_cons_of_mem _ (List.mem_append_left _ (List.mem_cons_of_mem _ (List.mem_cons_of_mem _ (List.mem_cons_of_mem _ (List.mem_cons_of_mem _ (List.mem_cons_of_mem _ (List.mem_cons_of_mem _ (List.Mem.head _)))))))))) (Nat.le_of_ble_eq_true rfl) (Nat.le_of_ble_eq_true rfl) (Nat.le_of_ble_eq_true rfl) (Nat.le_of_ble_eq_true rfl) dX11_most_49 ?_
          refine lv_istore_n (lv' := [(2, .int (if c_ < a_48 then a_48 else c_)), (3, .int s_), (0, .ref mx), (1, .int p1)]) hx hb dX11_most_52 rfl hl (by decide) rfl (fun ls hl => ?_)
          obtain ⟨t_53, et_53⟩ : ∃ y : Int32, y = s_ + 1 := ⟨_, rfl⟩
          obtain ⟨k_53, hk_53, hm_53, hM_53⟩ := kt_addk et_53
          try simp only [kt_c0, kt_c1, kt_c2, kt_c3, kt_c4, kt_c8, kt_c9, kt_cm1, kt_c81, kt_c40, kt_c7, kt_c5, kt_c6, kt_c512, kt_c10, kt_c10000] at hk_53
          refine lv_iinc (v := t_53) (lv' := [(3, .int t_53), (2, .int (if c_ < a_48 then a_48 else c_)), (0, .ref mx), (1, .int p1)]) hx hb dX11_most_53 hl (k := 1) rfl (by rw [et_53]; rfl) (by decide) rfl (fun ls hl => ?_)
          refine lv_goto (tgt := 22) hx hb dX11_most_56 (by decide) ?_
          exact ih_22 (t_53, (if c_ < a_48 then a_48 else c_)) (by show 0 ≤ t_53.toInt ∧ t_53.toInt ≤ 10002 ∧ 10002 < t_53.toInt + n_22; omega) H _ hP hD hS ls (lv_sub hl [0, 1, 2, 3] rfl)
    · have d_13 := c_13
      simp only [kt_lt, kt_le, kt_eq, kt_c0, kt_c1, kt_c2, kt_c3, kt_c4, kt_c8, kt_c9, kt_cm1, kt_c81, kt_c40, kt_c7, kt_c5, kt_c6, kt_c512, kt_c10, kt_c10000] at d_13
      refine lv_iconst (v := (-1)) hx hb dX11_most_16 (by decide) ?_
      exact kt_ri () hx hb hr hlk hS dX11_most_17 hP hD (by show True; trivial)

theorem iw_X11_stand_X11 : ∀ w ∈ wsX110, w ∈ wsX11_stand := fun _ h => kt_wp_X11_stand__X110 h
set_option maxHeartbeats 4000000 in
set_option maxRecDepth 100000 in
theorem c_X11_stand (l : Launch) (D : va_G) (cI cZ cB : ClassId) (sz : Nat) (mx : Nat) (ms : Nat) (mk : Nat) (ma : Nat) (mo : Nat) (mg : Nat) (mm : Nat) (mt : Nat) (mn : Nat) (me : Nat) (mq : Nat) (mwo : Nat) (md : Nat) (mf : Nat) (mr : Nat) (ml : Int32) (mw : Int32) (mgl : Int32) (mhd : Int32) (mre : Int32) (mag : Int32) (mkt : Int32) (mho : Int32) (mpc : Int32) (msd : Int32) (mki : Int32) (mdn : Int32) (mun : Int32) (mtk : Int32) (msv : Int32) (P_ : Nat) (fa : Nat → Int32) (fo : Nat → Int32) (fr : Nat → Int32) (fk : Nat → Int32) (ft : Nat → Int32) (gs_ : Nat → Int32) (mv : Nat → Int32) (gw : Nat → Int32) (p1 : Int32) (p2 : Int32) (hml_ : 2 ≤ ml.toInt ∧ ml.toInt ≤ 9) (hmw : 2 ≤ mw.toInt ∧ mw.toInt ≤ 9) (hpi : ¬ mho.toInt = 0 → kt_PI ml mw mpc msd mki mdn mun mkt mhd fr fk fa fo mv gs_ P_) (hho : 0 ≤ mho.toInt ∧ mho.toInt ≤ 4) (hsv : ¬ msv.toInt = 0 → ¬ mho.toInt = 0 ∧ 2 * kt_pw (ml.toInt * mw.toInt + 1) P_ ≤ 10000) : kt_Mi l yX11_stand wsX11_stand { frames := 2, cells := 0, slots := 0, locals := 43 } D (kt_ty cI cZ cB) [.ref mx, .int p1, .int p2] sz [(mx, .inr (11, [.int ml, .int mw, .ref ms, .int mgl, .int mhd, .int mre, .int mag, .int mkt, .int mho, .int mpc, .int msd, .int mki, .ref mk, .ref ma, .ref mo, .ref mg, .ref mm, .ref mt, .int mdn, .int mun, .ref mn, .int mtk, .ref me, .ref mq, .int msv, .ref mwo, .ref md, .ref mf, .ref mr])), (mwo, .inl (cI, 10000, .inl gw))] (fun (r : Int32) (u : Unit) => True) (fun (u : Unit) => [(mx, .inr (11, [.int ml, .int mw, .ref ms, .int mgl, .int mhd, .int mre, .int mag, .int mkt, .int mho, .int mpc, .int msd, .int mki, .ref mk, .ref ma, .ref mo, .ref mg, .ref mm, .ref mt, .int mdn, .int mun, .ref mn, .int mtk, .ref me, .ref mq, .int msv, .ref mwo, .ref md, .ref mf, .ref mr])), (mwo, .inl (cI, 10000, .inl gw))]) 0 0 := by
  refine kt_Mi.of (cc := cX11_stand) (maxL := 4) (ret := some .int) (by decide) rfl (Nat.le_of_ble_eq_true rfl) ?_
  intro p e s m below meth c A ls H hAt hP hD hS hl
  obtain ⟨hx, hb, hr, hml, hown, hts, hN, hK, hlk, hnm, hA⟩ := hAt
  have hl : lv_has ls 4 [(0, .ref mx), (1, .int p1), (2, .int p2)] := hl
  have hown : s.vm.findClass RX11 = some m.cls := hown
  refine lv_aload_n hx hb dX11_stand_0 rfl (lv_at hl 0 rfl) ?_
  refine va_get (D := D) (ci := 11) (C := RX11) (T := TX11) (N := 29) hx hb hts iw_X11_stand_X11 hown hK hP 0 rfl rfl 24 (by decide) (hts (.fieldLink RX11 76 "KingTableModel" "solved" "Z") (List.mem_cons_of_mem _ (List.mem_append_left _ (List.Mem.head _)))) (fun _ h9 => h9) rfl dX11_stand_1 ?_
  refine lv_if_eq (tgt := 34) hx hb dX11_stand_4 (by decide) (fun c_4 => ?_) (fun c_4 => ?_)
  · have d_4 := c_4
    simp only [kt_lt, kt_le, kt_eq, kt_c0, kt_c1, kt_c2, kt_c3, kt_c4, kt_c8, kt_c9, kt_cm1, kt_c81, kt_c40, kt_c7, kt_c5, kt_c6, kt_c512, kt_c10, kt_c10000] at d_4
    refine lv_iconst (v := (-1)) hx hb dX11_stand_34 (by decide) ?_
    exact kt_ri () hx hb hr hlk hS dX11_stand_35 hP hD (by show True; trivial)
  · have d_4 := c_4
    simp only [kt_lt, kt_le, kt_eq, kt_c0, kt_c1, kt_c2, kt_c3, kt_c4, kt_c8, kt_c9, kt_cm1, kt_c81, kt_c40, kt_c7, kt_c5, kt_c6, kt_c512, kt_c10, kt_c10000] at d_4
    obtain ⟨hm0, hst_⟩ := hsv (by omega)
    have hpl := hpi hm0
    have hpl0 := hpl
    obtain ⟨⟨hpc, hki, hsd, hdn0, hun0⟩, ⟨hfa, hco, hcc⟩, hinj, hrows, hcut, hlgl⟩ := hpl
    have hpw1 := kt_pw_1 (B := (ml.toInt * mw.toInt + 1)) (by have := kt_mulb hml_ hmw; omega) P_
    refine lv_iload_n hx hb dX11_stand_7 rfl (lv_at hl 2 rfl) ?_
    refine lv_iconst (v := 0) hx hb dX11_stand_8 (by decide) ?_
    refine lv_iconst (v := 1) hx hb dX11_stand_9 (by decide) ?_
    refine kt_pi (wc := []) [] hP hD hS hA rfl (by decide) (fun hPc hDc => va_runS (As := [.int p2, .int 0, .int 1]) (rest := []) ⟨hx, hb, hml, hown, hts⟩ (c_X11_isIn l D cI cZ cB H.size p2 0 1 ) (va_cwS 3 hts gX11_stand_X11_isIn rfl rfl rfl (by decide +kernel) ⟨Nat.le_of_ble_eq_true rfl, Nat.le_of_ble_eq_true rfl⟩) (kt_preS hN hK hPc hDc) rfl rfl hl.1 rfl (lv_room (Nat.le_of_ble_eq_true rfl)) dX11_stand_10 ⟨Nat.le_of_ble_eq_true rfl, Nat.le_of_ble_eq_true rfl⟩) (fun r_10 _ H locs hw_10 hP hS => ?_)
    refine lv_if_eq (tgt := 34) hx hb dX11_stand_13 (by decide) (fun c_13 => ?_) (fun c_13 => ?_)
    · have d_13 := c_13
      simp only [kt_lt, kt_le, kt_eq, kt_c0, kt_c1, kt_c2, kt_c3, kt_c4, kt_c8, kt_c9, kt_cm1, kt_c81, kt_c40, kt_c7, kt_c5, kt_c6, kt_c512, kt_c10, kt_c10000] at d_13
      refine lv_iconst (v := (-1)) hx hb dX11_stand_34 (by decide) ?_
      exact kt_ri () hx hb hr hlk hS dX11_stand_35 hP hD (by show True; trivial)
    · have d_13 := c_13
      simp only [kt_lt, kt_le, kt_eq, kt_c0, kt_c1, kt_c2, kt_c3, kt_c4, kt_c8, kt_c9, kt_cm1, kt_c81, kt_c40, kt_c7, kt_c5, kt_c6, kt_c512, kt_c10, kt_c10000] at d_13
      have hq2 := hw_10.t c_13
      rw [kt_c0, kt_c1] at hq2
      refine lv_iload_n hx hb dX11_stand_16 rfl (lv_at hl 1 rfl) ?_
      refine lv_if_lt (tgt := 34) hx hb dX11_stand_17 (by decide) (fun c_17 => ?_) (fun c_17 => ?_)
      · have d_17 := c_17
        simp only [kt_lt, kt_le, kt_eq, kt_c0, kt_c1, kt_c2, kt_c3, kt_c4, kt_c8, kt_c9, kt_cm1, kt_c81, kt_c40, kt_c7, kt_c5, kt_c6, kt_c512, kt_c10, kt_c10000] at d_17
        refine lv_iconst (v := (-1)) hx hb dX11_stand_34 (by decide) ?_
        exact kt_ri () hx hb hr hlk hS dX11_stand_35 hP hD (by show True; trivial)
      · have d_17 := c_17
        simp only [kt_lt, kt_le, kt_eq, kt_c0, kt_c1, kt_c2, kt_c3, kt_c4, kt_c8, kt_c9, kt_cm1, kt_c81, kt_c40, kt_c7, kt_c5, kt_c6, kt_c512, kt_c10, kt_c10000] at d_17
        refine lv_iload_n hx hb dX11_stand_20 rfl (lv_at hl 1 rfl) ?_
        refine lv_i2l hx hb dX11_stand_21 rfl ?_
        refine lv_topl (fun t_21 et_21 => ?_)
        have hk_21 : t_21.toInt = p1.toInt := by rw [et_21]; exact Int32.toInt_toInt64 _
        refine lv_aload_n hx hb dX11_stand_22 rfl (lv_at hl 0 rfl) ?_
        refine kt_pl (wc := [(mx, .inr (11, [.int ml, .int mw, .ref ms, .int mgl, .int mhd, .int mre, .int mag, .int mkt, .int mho, .int mpc, .int msd, .int mki, .ref mk, .ref ma, .ref mo, .ref mg, .ref mm, .ref mt, .int mdn, .int mun, .ref mn, .int mtk, .ref me, .ref mq, .int msv, .ref mwo, .ref md, .ref mf, .ref mr]))]) [0] hP hD hS hA rfl (by decide) (fun hPc hDc => va_runV (As := []) (rest := [.long t_21]) ⟨hx, hb, hml, hown, hts⟩ (c_X11_stands l D cI cZ cB H.size mx ms mk ma mo mg mm mt mn me mq mwo md mf mr ml mw mgl mhd mre mag mkt mho mpc msd mki mdn mun mtk msv P_ hml_ hmw hpc) (cwV 0 hts gX11_stand_X11_stands rfl rfl rfl (by decide +kernel) ⟨Nat.le_of_ble_eq_true rfl, Nat.le_of_ble_eq_true rfl⟩) (kt_preV hN hK hPc hDc 0 (ci := 11) (q := (RX11, TX11, 29)) rfl rfl) rfl rfl hl.1 rfl (lv_room (Nat.le_of_ble_eq_true rfl)) dX11_stand_23 ⟨Nat.le_of_ble_eq_true rfl, Nat.le_of_ble_eq_true rfl⟩) (fun r_23 _ H locs hw_23 hP hS => ?_)
        refine lv_ldc2 (v := 2) hx hb hown (hts (.constantLong RX11 180 (2)) (List.mem_cons_of_mem _ (List.mem_append_left _ (List.mem_cons_of_mem _ (List.Mem.head _))))) dX11_stand_26 ?_
        refine lv_topl (fun t_26 et_26 => ?_)
        have hk_26 : t_26.toInt = 2 := by rw [et_26]; decide
        refine lv_ldiv hx hb dX11_stand_29 (by intro h; rw [h] at hk_26; exact absurd hk_26 (by decide)) ?_
        refine lv_topl (fun t_29 et_29 => ?_)
        have hk_29 := kt_ldiv et_29 (by omega) (by omega)
        rw [hk_26] at hk_29
        refine W.lcmp hx hb dX11_stand_30 ?_
        refine lv_topi (fun t_30 et_30 => ?_)
        have hk_30 := kt_lcmp et_30
        refine lv_if_lt (tgt := 36) hx hb dX11_stand_31 (by decide) (fun c_31 => ?_) (fun c_31 => ?_)
        · have d_31 := c_31
          simp only [kt_lt, kt_le, kt_eq, kt_c0, kt_c1, kt_c2, kt_c3, kt_c4, kt_c8, kt_c9, kt_cm1, kt_c81, kt_c40, kt_c7, kt_c5, kt_c6, kt_c512, kt_c10, kt_c10000] at d_31
          refine lv_aload_n hx hb dX11_stand_36 rfl (lv_at hl 0 rfl) ?_
          refine va_get (D := D) (ci := 11) (C := RX11) (T := TX11) (N := 29) hx hb hts iw_X11_stand_X11 hown hK hP 0 rfl rfl 25 (by decide) (hts (.fieldLink RX11 57 "KingTableModel" "worths" "[I") (List.mem_cons_of_mem _ (List.mem_append_left _ (List.mem_cons_of_mem _ (List.mem_cons_of_mem _ (List.Mem.head _)))))) (fun _ h9 => h9) rfl dX11_stand_37 ?_
          refine lv_iconst (v := 2) hx hb dX11_stand_40 (by decide) ?_
          refine lv_iload_n hx hb dX11_stand_41 rfl (lv_at hl 1 rfl) ?_
          refine lv_imul hx hb dX11_stand_42 ?_
          refine lv_topi (fun t_42 et_42 => ?_)
          obtain ⟨k_42, hk_42, hm_42, hM_42⟩ := kt_mulk (C := 2) (et_42.trans (Int32.mul_comm _ _)) (by decide)
          try simp only [kt_c0, kt_c1, kt_c2, kt_c3, kt_c4, kt_c8, kt_c9, kt_cm1, kt_c81, kt_c40, kt_c7, kt_c5, kt_c6, kt_c512, kt_c10, kt_c10000] at hk_42
          refine lv_iload_n hx hb dX11_stand_43 rfl (lv_at hl 2 rfl) ?_
          refine lv_iadd hx hb dX11_stand_44 ?_
          refine lv_topi (fun t_44 et_44 => ?_)
          first | have hk_44 := kt_addx et_44 (by first | omega | (simp only [kt_c0, kt_c1, kt_c2, kt_c3, kt_c4, kt_c8, kt_c9, kt_cm1, kt_c81, kt_c40, kt_c7, kt_c5, kt_c6, kt_c512, kt_c10, kt_c10000]; omega)) (by first | omega | (simp only [kt_c0, kt_c1, kt_c2, kt_c3, kt_c4, kt_c8, kt_c9, kt_cm1, kt_c81, kt_c40, kt_c7, kt_c5, kt_c6, kt_c512, kt_c10, kt_c10000]; omega)) | obtain ⟨k_44, hk_44, hm_44, hM_44⟩ := kt_addk et_44
          have hi_1 : vp_in t_44 10000 := by exact kt_in (by omega) (by omega)
          refine va_iald hx hb hK hP 1 0 rfl rfl hi_1 dX11_stand_45 ?_
          refine lv_topi (fun a_45 ea_45 => ?_)
          refine lv_istore_n (lv' := [(3, .int a_45), (0, .ref mx), (1, .int p1), (2, .int p2)]) hx hb dX11_stand_46 rfl hl (by decide) rfl (fun ls hl => ?_)
          refine lv_iload_n hx hb dX11_stand_47 rfl (lv_at hl 0 rfl) ?_
          refine lv_iconst (v := 2) hx hb dX11_stand_48 (by decide) ?_
          refine lv_icmp_le (tgt := 56) hx hb dX11_stand_49 (by decide) (fun c_49 => ?_) (fun c_49 => ?_)
          · have d_49 := c_49
            simp only [kt_lt, kt_le, kt_eq, kt_c0, kt_c1, kt_c2, kt_c3, kt_c4, kt_c8, kt_c9, kt_cm1, kt_c81, kt_c40, kt_c7, kt_c5, kt_c6, kt_c512, kt_c10, kt_c10000] at d_49
            refine lv_iload_n hx hb dX11_stand_56 rfl (lv_at hl 0 rfl) ?_
            exact kt_ri () hx hb hr hlk hS dX11_stand_57 hP hD (by show True; trivial)
          · have d_49 := c_49
            simp only [kt_lt, kt_le, kt_eq, kt_c0, kt_c1, kt_c2, kt_c3, kt_c4, kt_c8, kt_c9, kt_cm1, kt_c81, kt_c40, kt_c7, kt_c5, kt_c6, kt_c512, kt_c10, kt_c10000] at d_49
            refine lv_iconst (v := (-1)) hx hb dX11_stand_52 (by decide) ?_
            refine lv_goto (tgt := 57) hx hb dX11_stand_53 (by decide) ?_
            exact kt_ri () hx hb hr hlk hS dX11_stand_57 hP hD (by show True; trivial)
        · have d_31 := c_31
          simp only [kt_lt, kt_le, kt_eq, kt_c0, kt_c1, kt_c2, kt_c3, kt_c4, kt_c8, kt_c9, kt_cm1, kt_c81, kt_c40, kt_c7, kt_c5, kt_c6, kt_c512, kt_c10, kt_c10000] at d_31
          refine lv_iconst (v := (-1)) hx hb dX11_stand_34 (by decide) ?_
          exact kt_ri () hx hb hr hlk hS dX11_stand_35 hP hD (by show True; trivial)

theorem iw_X11_best_X11 : ∀ w ∈ wsX110, w ∈ wsX11_best := fun _ h => kt_wp_X11_best__X110 h