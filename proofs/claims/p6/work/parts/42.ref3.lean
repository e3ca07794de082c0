theorem kt_addx {t x y : Int32} (h : t = x + y) (h1 : -2147483648 ≤ x.toInt + y.toInt) (h2 : x.toInt + y.toInt < 2147483648) : t.toInt = x.toInt + y.toInt := by
  obtain ⟨k, hk, h3, h4⟩ := kt_addk h
  omega
theorem kt_subx {t x y : Int32} (h : t = x - y) (h1 : -2147483648 ≤ x.toInt - y.toInt) (h2 : x.toInt - y.toInt < 2147483648) : t.toInt = x.toInt - y.toInt := by
  obtain ⟨k, hk, h3, h4⟩ := kt_subk h
  omega
theorem kt_c41 : (41 : Int32).toInt = 41 := by decide
theorem kt_b8 {v : Int32} (h1 : -128 ≤ v.toInt) (h2 : v.toInt ≤ 127) : v.toInt8.toInt32 = v := by
  rw [kt_eq, Int8.toInt_toInt32, Int32.toInt_toInt8]
  show v.toInt.bmod 256 = v.toInt
  rw [Int.bmod_def]
  split <;> omega
theorem kt_b8n {v : Int32} (h1 : -128 ≤ v.toInt) (h2 : v.toInt ≤ 127) : vp_nar .byte v.toInt8.toInt32 = v := by
  rw [kt_b8 h1 h2, vp_nar_byte, kt_b8 h1 h2]
/-- a written stand: its pieces' fields lie on the board, its turn is a side -/
def kt_row (g : Nat → Int32) (n P : Nat) (S : Int) : Prop := (∀ p, p < P → -1 ≤ (g (41 * n + p)).toInt ∧ (g (41 * n + p)).toInt < S) ∧ 0 ≤ (g (41 * n + 40)).toInt ∧ (g (41 * n + 40)).toInt ≤ 1
/-- what stands on a field says that it is there -/
def kt_con (fo fa : Nat → Int32) (n : Nat) : Prop := ∀ f : Nat, f < 81 → ¬ fo f = -1 → ∃ q : Nat, q < n ∧ fo f = nI q ∧ fa q = nI f
theorem kt_con.r {fo fa : Nat → Int32} {n : Nat} (h : kt_con fo fa n) (hn : n ≤ 40) : kt_r fo 81 (-1) ((n : Int) - 1) := by
  intro j hj
  by_cases e : fo j = -1
  · rw [e, kt_cm1]; omega
  · obtain ⟨q, hq, e2, -⟩ := h j hj e
    rw [e2, kt_nI (by omega)]
    omega

set_option maxHeartbeats 4000000 in
set_option maxRecDepth 100000 in
theorem c_X11_row (l : Launch) (D : va_G) (cI cZ cB : ClassId) (sz : Nat) (mx : Nat) (ms : Nat) (mk : Nat) (ma : Nat) (mo : Nat) (mg : Nat) (mm : Nat) (mt : Nat) (mn : Nat) (me : Nat) (mq : Nat) (mwo : Nat) (md : Nat) (mf : Nat) (mr : Nat) (ml : Int32) (mw : Int32) (mgl : Int32) (mhd : Int32) (mre : Int32) (mag : Int32) (mkt : Int32) (mho : Int32) (mpc : Int32) (msd : Int32) (mki : Int32) (mdn : Int32) (mun : Int32) (mtk : Int32) (msv : Int32) (p1 : Int32) (hp1 : 0 ≤ p1.toInt ∧ p1.toInt ≤ 4000) : kt_Mi l yX11_row wsX11_row { frames := 0, cells := 0, slots := 0, locals := 0 } D (kt_ty cI cZ cB) [.ref mx, .int p1] sz [(mx, .inr (11, [.int ml, .int mw, .ref ms, .int mgl, .int mhd, .int mre, .int mag, .int mkt, .int mho, .int mpc, .int msd, .int mki, .ref mk, .ref ma, .ref mo, .ref mg, .ref mm, .ref mt, .int mdn, .int mun, .ref mn, .int mtk, .ref me, .ref mq, .int msv, .ref mwo, .ref md, .ref mf, .ref mr]))] (fun (r : Int32) (u : Unit) => r.toInt = 41 * p1.toInt) (fun (u : Unit) => [(mx, .inr (11, [.int ml, .int mw, .ref ms, .int mgl, .int mhd, .int mre, .int mag, .int mkt, .int mho, .int mpc, .int msd, .int mki, .ref mk, .ref ma, .ref mo, .ref mg, .ref mm, .ref mt, .int mdn, .int mun, .ref mn, .int mtk, .ref me, .ref mq, .int msv, .ref mwo, .ref md, .ref mf, .ref mr]))]) 0 0 := by
  refine kt_Mi.of (cc := cX11_row) (maxL := 2) (ret := some .int) (by decide) rfl (Nat.le_of_ble_eq_true rfl) ?_
  intro p e s m below meth c A ls H hAt hP hD hS hl
  obtain ⟨hx, hb, hr, hml, hown, hts, hN, hK, hlk, hnm, hA⟩ := hAt
  have hl : lv_has ls 2 [(0, .ref mx), (1, .int p1)] := hl
  have hown : s.vm.findClass RX11 = some m.cls := hown
  refine lv_bipush (v := 41) hx hb dX11_row_0 (by decide) ?_
  refine lv_iload_n hx hb dX11_row_2 rfl (lv_at hl 1 rfl) ?_
  refine lv_imul hx hb dX11_row_3 ?_
  refine lv_topi (fun t_3 et_3 => ?_)
  obtain ⟨k_3, hk_3, hm_3, hM_3⟩ := kt_mulk (C := 41) (et_3.trans (Int32.mul_comm _ _)) (by decide)
  try simp only [kt_c0, kt_c1, kt_c2, kt_c3, kt_c4, kt_c8, kt_c9, kt_cm1, kt_c81, kt_c40, kt_c7, kt_c5, kt_c6, kt_c512, kt_c10, kt_c10000] at hk_3
  exact kt_ri () hx hb hr hlk hS dX11_row_4 hP hD (by show t_3.toInt = 41 * p1.toInt; omega)

theorem iw_X11_isAlike_X11 : ∀ w ∈ wsX110, w ∈ wsX11_isAlike := fun _ h => kt_wp_X11_isAlike__X110 h
set_option maxHeartbeats 4000000 in
set_option maxRecDepth 100000 in
theorem c_X11_isAlike (l : Launch) (D : va_G) (cI cZ cB : ClassId) (sz : Nat) (mx : Nat) (ms : Nat) (mk : Nat) (ma : Nat) (mo : Nat) (mg : Nat) (mm : Nat) (mt : Nat) (mn : Nat) (me : Nat) (mq : Nat) (mwo : Nat) (md : Nat) (mf : Nat) (mr : Nat) (ml : Int32) (mw : Int32) (mgl : Int32) (mhd : Int32) (mre : Int32) (mag : Int32) (mkt : Int32) (mho : Int32) (mpc : Int32) (msd : Int32) (mki : Int32) (mdn : Int32) (mun : Int32) (mtk : Int32) (msv : Int32) (gs_ : Nat → Int32) (p1 : Int32) (p2 : Int32) (hp1 : 0 ≤ p1.toInt ∧ p1.toInt ≤ 4000) (hp2 : 0 ≤ p2.toInt ∧ p2.toInt ≤ 4000) : kt_Mi l yX11_isAlike wsX11_isAlike { frames := 1, cells := 0, slots := 0, locals := 21 } D (kt_ty cI cZ cB) [.ref mx, .int p1, .int p2] sz [(mx, .inr (11, [.int ml, .int mw, .ref ms, .int mgl, .int mhd, .int mre, .int mag, .int mkt, .int mho, .int mpc, .int msd, .int mki, .ref mk, .ref ma, .ref mo, .ref mg, .ref mm, .ref mt, .int mdn, .int mun, .ref mn, .int mtk, .ref me, .ref mq, .int msv, .ref mwo, .ref md, .ref mf, .ref mr])), (mt, .inl (cB, 172241, .inl gs_))] (fun (r : Int32) (u : Unit) => 0 ≤ r.toInt ∧ r.toInt ≤ 1) (fun (u : Unit) => [(mx, .inr (11, [.int ml, .int mw, .ref ms, .int mgl, .int mhd, .int mre, .int mag, .int mkt, .int mho, .int mpc, .int msd, .int mki, .ref mk, .ref ma, .ref mo, .ref mg, .ref mm, .ref mt, .int mdn, .int mun, .ref mn, .int mtk, .ref me, .ref mq, .int msv, .ref mwo, .ref md, .ref mf, .ref mr])), (mt, .inl (cB, 172241, .inl gs_))]) 0 0 := by
  refine kt_Mi.of (cc := cX11_isAlike) (maxL := 5) (ret := some .boolean) (by decide) rfl (Nat.le_of_ble_eq_true rfl) ?_
  intro p e s m below meth c A ls H hAt hP hD hS hl
  obtain ⟨hx, hb, hr, hml, hown, hts, hN, hK, hlk, hnm, hA⟩ := hAt
  have hl : lv_has ls 5 [(0, .ref mx), (1, .int p1), (2, .int p2)] := hl
  have hown : s.vm.findClass RX11 = some m.cls := hown
  refine lv_iconst (v := 1) hx hb dX11_isAlike_0 (by decide) ?_
  refine lv_istore_n (lv' := [(3, .int 1), (0, .ref mx), (1, .int p1), (2, .int p2)]) hx hb dX11_isAlike_1 rfl hl (by decide) rfl (fun ls hl => ?_)
  refine lv_iconst (v := 0) hx hb dX11_isAlike_2 (by decide) ?_
  refine lv_istore (lv' := [(4, .int 0), (3, .int 1), (0, .ref mx), (1, .int p1), (2, .int p2)]) hx hb dX11_isAlike_3 hl (by decide) rfl (fun ls hl => ?_)
  refine kt_loop (σ := Nat × Int32) 5 5 (fun u => [(mx, .inr (11, [.int ml, .int mw, .ref ms, .int mgl, .int mhd, .int mre, .int mag, .int mkt, .int mho, .int mpc, .int msd, .int mki, .ref mk, .ref ma, .ref mo, .ref mg, .ref mm, .ref mt, .int mdn, .int mun, .ref mn, .int mtk, .ref me, .ref mq, .int msv, .ref mwo, .ref md, .ref mf, .ref mr])), (mt, .inl (cB, 172241, .inl gs_))]) (fun u => [(4, .int (nI u.1)), (3, .int u.2), (0, .ref mx), (1, .int p1), (2, .int p2)]) (fun n u => (u.1 ≤ 41 ∧ 41 < u.1 + n) ∧ 0 ≤ u.2.toInt ∧ u.2.toInt ≤ 1) (fun u h => by omega) (fun n_5 ih_5 u hI H locs hP hD hS ls hl => ?_) (42) (0, (1 : Int32)) (by show (0 ≤ 41 ∧ 41 < 0 + 42) ∧ 0 ≤ (1 : Int32).toInt ∧ (1 : Int32).toInt ≤ 1; exact ⟨by decide, by decide⟩) hP hD hS (lv_sub hl [0, 1, 2, 3, 4] rfl)
  obtain ⟨k, cz⟩ := u
  have hP : va_P D vwCl [(mx, .inr (11, [.int ml, .int mw, .ref ms, .int mgl, .int mhd, .int mre, .int mag, .int mkt, .int mho, .int mpc, .int msd, .int mki, .ref mk, .ref ma, .ref mo, .ref mg, .ref mm, .ref mt, .int mdn, .int mun, .ref mn, .int mtk, .ref me, .ref mq, .int msv, .ref mwo, .ref md, .ref mf, .ref mr])), (mt, .inl (cB, 172241, .inl gs_))] H := hP
  have hD : va_D A [(mx, .inr (11, [.int ml, .int mw, .ref ms, .int mgl, .int mhd, .int mre, .int mag, .int mkt, .int mho, .int mpc, .int msd, .int mki, .ref mk, .ref ma, .ref mo, .ref mg, .ref mm, .ref mt, .int mdn, .int mun, .ref mn, .int mtk, .ref me, .ref mq, .int msv, .ref mwo, .ref md, .ref mf, .ref mr])), (mt, .inl (cB, 172241, .inl gs_))] := hD
  have hl : lv_has ls 5 [(4, .int (nI k)), (3, .int cz), (0, .ref mx), (1, .int p1), (2, .int p2)] := hl
  have hI : (k ≤ 41 ∧ 41 < k + (n_5 + 1)) ∧ 0 ≤ cz.toInt ∧ cz.toInt ≤ 1 := hI
  obtain ⟨hkb, hcz⟩ := hI
  have hk0 := kt_nI (n := k) (by omega)
  refine lv_iload hx hb dX11_isAlike_5 (lv_at hl 0 rfl) ?_
  refine lv_bipush (v := 41) hx hb dX11_isAlike_7 (by decide) ?_
  refine lv_icmp_ge (tgt := 57) hx hb dX11_isAlike_9 (by decide) (fun c_9 => ?_) (fun c_9 => ?_)
  · have d_9 := c_9
    simp only [kt_lt, kt_le, kt_eq, kt_c0, kt_c1, kt_c2, kt_c3, kt_c4, kt_c8, kt_c9, kt_cm1, kt_c81, kt_c40, kt_c7, kt_c5, kt_c6, kt_c512, kt_c10, kt_c10000] at d_9
    refine lv_iload_n hx hb dX11_isAlike_57 rfl (lv_at hl 1 rfl) ?_
    exact kt_rz () hx hb hr hlk hS dX11_isAlike_58 hP hD (by show 0 ≤ cz.toInt ∧ cz.toInt ≤ 1; exact hcz) (by exact kt_z hcz.1 hcz.2)
  · have d_9 := c_9
    simp only [kt_lt, kt_le, kt_eq, kt_c0, kt_c1, kt_c2, kt_c3, kt_c4, kt_c8, kt_c9, kt_cm1, kt_c81, kt_c40, kt_c7, kt_c5, kt_c6, kt_c512, kt_c10, kt_c10000] at d_9
    rw [kt_c41] at d_9
    refine lv_iload_n hx hb dX11_isAlike_12 rfl (lv_at hl 1 rfl) ?_
    refine lv_if_eq (tgt := 57) hx hb dX11_isAlike_13 (by decide) (fun c_13 => ?_) (fun c_13 => ?_)
    · have d_13 := c_13
      simp only [kt_lt, kt_le, kt_eq, kt_c0, kt_c1, kt_c2, kt_c3, kt_c4, kt_c8, kt_c9, kt_cm1, kt_c81, kt_c40, kt_c7, kt_c5, kt_c6, kt_c512, kt_c10, kt_c10000] at d_13
      refine lv_iload_n hx hb dX11_isAlike_57 rfl (lv_at hl 1 rfl) ?_
      exact kt_rz () hx hb hr hlk hS dX11_isAlike_58 hP hD (by show 0 ≤ cz.toInt ∧ cz.toInt ≤ 1; exact hcz) (by exact kt_z hcz.1 hcz.2)
    · have d_13 := c_13
      simp only [kt_lt, kt_le, kt_eq, kt_c0, kt_c1, kt_c2, kt_c3, kt_c4, kt_c8, kt_c9, kt_cm1, kt_c81, kt_c40, kt_c7, kt_c5, kt_c6, kt_c512, kt_c10, kt_c10000] at d_13
      refine lv_aload_n hx hb dX11_isAlike_16 rfl (lv_at hl 2 rfl) ?_
      refine va_get (D := D) (ci := 11) (C := RX11) (T := TX11) (N := 29) hx hb hts iw_X11_isAlike_X11 hown hK hP 0 rfl rfl 17 (by decide) (hts (.fieldLink RX11 43 "KingTableModel" "stood" "[B") (List.mem_cons_of_mem _ (List.mem_append_left _ (List.Mem.head _)))) (fun _ h9 => h9) rfl dX11_isAlike_17 ?_
      refine lv_aload_n hx hb dX11_isAlike_20 rfl (lv_at hl 2 rfl) ?_
      refine lv_iload_n hx hb dX11_isAlike_21 rfl (lv_at hl 3 rfl) ?_
      refine kt_pi (wc := [(mx, .inr (11, [.int ml, .int mw, .ref ms, .int mgl, .int mhd, .int mre, .int mag, .int mkt, .int mho, .int mpc, .int msd, .int mki, .ref mk, .ref ma, .ref mo, .ref mg, .ref mm, .ref mt, .int mdn, .int mun, .ref mn, .int mtk, .ref me, .ref mq, .int msv, .ref mwo, .ref md, .ref mf, .ref mr]))]) [0] hP hD hS hA rfl (by decide) (fun hPc hDc => va_runV (As := [.int p1]) (rest := [.ref mt]) ⟨hx, hb, hml, hown, hts⟩ (c_X11_row l D cI cZ cB H.size mx ms mk ma mo mg mm mt mn me mq mwo md mf mr ml mw mgl mhd mre mag mkt mho mpc msd mki mdn mun mtk msv p1 (by first | assumption | omega | rfl | decide)) (cwV 1 hts gX11_isAlike_X11_row rfl rfl rfl (by decide +kernel) ⟨Nat.le_of_ble_eq_true rfl, Nat.le_of_ble_eq_true rfl⟩) (kt_preV hN hK hPc hDc 0 (ci := 11) (q := (RX11, TX11, 29)) rfl rfl) rfl rfl hl.1 rfl (lv_room (Nat.le_of_ble_eq_true rfl)) dX11_isAlike_22 ⟨Nat.le_of_ble_eq_true rfl, Nat.le_of_ble_eq_true rfl⟩) (fun r_22 _ H locs hw_22 hP hS => ?_)
      refine lv_iload hx hb dX11_isAlike_25 (lv_at hl 0 rfl) ?_
      refine lv_iadd hx hb dX11_isAlike_27 ?_
      refine lv_topi (fun t_27 et_27 => ?_)
      first | have hk_27 := kt_addx et_27 (by first | omega | (simp only [kt_c0, kt_c1, kt_c2, kt_c3, kt_c4, kt_c8, kt_c9, kt_cm1, kt_c81, kt_c40, kt_c7, kt_c5, kt_c6, kt_c512, kt_c10, kt_c10000]; omega)) (by first | omega | (simp only [kt_c0, kt_c1, kt_c2, kt_c3, kt_c4, kt_c8, kt_c9, kt_cm1, kt_c81, kt_c40, kt_c7, kt_c5, kt_c6, kt_c512, kt_c10, kt_c10000]; omega)) | obtain ⟨k_27, hk_27, hm_27, hM_27⟩ := kt_addk et_27
      have hi_1 : vp_in t_27 172241 := by exact kt_in (by omega) (by omega)
      refine va_bald hx hb hK hP 1 2 rfl rfl hi_1 dX11_isAlike_28 ?_
      refine lv_topi (fun a_28 ea_28 => ?_)
      refine lv_aload_n hx hb dX11_isAlike_29 rfl (lv_at hl 2 rfl) ?_
      refine va_get (D := D) (ci := 11) (C := RX11) (T := TX11) (N := 29) hx hb hts iw_X11_isAlike_X11 hown hK hP 0 rfl rfl 17 (by decide) (hts (.fieldLink RX11 43 "KingTableModel" "stood" "[B") (List.mem_cons_of_mem _ (List.mem_append_left _ (List.Mem.head _)))) (fun _ h9 => h9) rfl dX11_isAlike_30 ?_
      refine lv_aload_n hx hb dX11_isAlike_33 rfl (lv_at hl 2 rfl) ?_
      refine lv_iload_n hx hb dX11_isAlike_34 rfl (lv_at hl 4 rfl) ?_
      refine kt_pi (wc := [(mx, .inr (11, [.int ml, .int mw, .ref ms, .int mgl, .int mhd, .int mre, .int mag, .int mkt, .int mho, .int mpc, .int msd, .int mki, .ref mk, .ref ma, .ref mo, .ref mg, .ref mm, .ref mt, .int mdn, .int mun, .ref mn, .int mtk, .ref me, .ref mq, .int msv, .ref mwo, .ref md, .ref mf, .ref mr]))]) [0] hP hD hS hA rfl (by decide) (fun hPc hDc => va_runV (As := [.int p2]) (rest := [.ref mt, .int a_28]) ⟨hx, hb, hml, hown, hts⟩ (c_X11_row l D cI cZ cB H.size mx ms mk ma mo mg mm mt mn me mq mwo md mf mr ml mw mgl mhd mre mag mkt mho mpc msd mki mdn mun mtk msv p2 (by first | assumption | omega | rfl | decide)) (cwV 1 hts gX11_isAlike_X11_row rfl rfl rfl (by decide +kernel) ⟨Nat.le_of_ble_eq_true rfl, Nat.le_of_ble_eq_true rfl⟩) (kt_preV hN hK hPc hDc 0 (ci := 11) (q := (RX11, TX11, 29)) rfl rfl) rfl rfl hl.1 rfl (lv_room (Nat.le_of_ble_eq_true rfl)) dX11_isAlike_35 ⟨Nat.le_of_ble_eq_true rfl, Nat.le_of_ble_eq_true rfl⟩) (fun r_35 _ H locs hw_35 hP hS => ?_)
      refine lv_iload hx hb dX11_isAlike_38 (lv_at hl 0 rfl) ?_
      refine lv_iadd hx hb dX11_isAlike_40 ?_
      refine lv_topi (fun t_40 et_40 => ?_)
      first | have hk_40 := kt_addx et_40 (by first | omega | (simp only [kt_c0, kt_c1, kt_c2, kt_c3, kt_c4, kt_c8, kt_c9, kt_cm1, kt_c81, kt_c40, kt_c7, kt_c5, kt_c6, kt_c512, kt_c10, kt_c10000]; omega)) (by first | omega | (simp only [kt_c0, kt_c1, kt_c2, kt_c3, kt_c4, kt_c8, kt_c9, kt_cm1, kt_c81, kt_c40, kt_c7, kt_c5, kt_c6, kt_c512, kt_c10, kt_c10000]; omega)) | obtain ⟨k_40, hk_40, hm_40, hM_40⟩ := kt_addk et_40
      have hi_2 : vp_in t_40 172241 := by exact kt_in (by omega) (by omega)
      refine va_bald hx hb hK hP 1 2 rfl rfl hi_2 dX11_isAlike_41 ?_
      refine lv_topi (fun a_41 ea_41 => ?_)
      refine kt_join (σ := Int32) 50 5 (fun u => [(mx, .inr (11, [.int ml, .int mw, .ref ms, .int mgl, .int mhd, .int mre, .int mag, .int mkt, .int mho, .int mpc, .int msd, .int mki, .ref mk, .ref ma, .ref mo, .ref mg, .ref mm, .ref mt, .int mdn, .int mun, .ref mn, .int mtk, .ref me, .ref mq, .int msv, .ref mwo, .ref md, .ref mf, .ref mr])), (mt, .inl (cB, 172241, .inl gs_))]) (fun u => [(4, .int (nI k)), (3, .int cz), (0, .ref mx), (1, .int p1), (2, .int p2)]) (fun u => [.int u]) (fun u => 0 ≤ u.toInt ∧ u.toInt ≤ 1) (D := D) (A := A) (H0 := s.heap) (fun u hI H locs hP hD hS ls hl => ?_) (fun j_50 => ?_)
      · obtain ⟨v, rfl⟩ : ∃ z, z = u := ⟨_, rfl⟩
        have hP : va_P D vwCl [(mx, .inr (11, [.int ml, .int mw, .ref ms, .int mgl, .int mhd, .int mre, .int mag, .int mkt, .int mho, .int mpc, .int msd, .int mki, .ref mk, .ref ma, .ref mo, .ref mg, .ref mm, .ref mt, .int mdn, .int mun, .ref mn, .int mtk, .ref me, .ref mq, .int msv, .ref mwo, .ref md, .ref mf, .ref mr])), (mt, .inl (cB, 172241, .inl gs_))] H := hP
        have hD : va_D A [(mx, .inr (11, [.int ml, .int mw, .ref ms, .int mgl, .int mhd, .int mre, .int mag, .int mkt, .int mho, .int mpc, .int msd, .int mki, .ref mk, .ref ma, .ref mo, .ref mg, .ref mm, .ref mt, .int mdn, .int mun, .ref mn, .int mtk, .ref me, .ref mq, .int msv, .ref mwo, .ref md, .ref mf, .ref mr])), (mt, .inl (cB, 172241, .inl gs_))] := hD
        have hl : lv_has ls 5 [(4, .int (nI k)), (3, .int cz), (0, .ref mx), (1, .int p1), (2, .int p2)] := hl
        have hI : 0 ≤ v.toInt ∧ v.toInt ≤ 1 := hI
        have hv := hI
        refine lv_istore_n (lv' := [(3, .int v), (4, .int (nI k)), (0, .ref mx), (1, .int p1), (2, .int p2)]) hx hb dX11_isAlike_50 rfl hl (by decide) rfl (fun ls hl => ?_)
        refine lv_iinc (v := nI (k + 1)) (lv' := [(4, .int (nI (k + 1))), (3, .int v), (0, .ref mx), (1, .int p1), (2, .int p2)]) hx hb dX11_isAlike_51 hl (k := 1) rfl (nI_1 _) (by decide) rfl (fun ls hl => ?_)
        refine lv_goto (tgt := 5) hx hb dX11_isAlike_54 (by decide) ?_
        exact ih_5 ((k + 1), v) (by show ((k + 1) ≤ 41 ∧ 41 < (k + 1) + n_5) ∧ 0 ≤ v.toInt ∧ v.toInt ≤ 1; exact ⟨by omega, hv⟩) H _ hP hD hS ls (lv_sub hl [0, 1, 2, 3, 4] rfl)
      refine lv_icmp_ne (tgt := 49) hx hb dX11_isAlike_42 (by decide) (fun c_42 => ?_) (fun c_42 => ?_)
      · have d_42 := c_42
        simp only [kt_lt, kt_le, kt_eq, kt_c0, kt_c1, kt_c2, kt_c3, kt_c4, kt_c8, kt_c9, kt_cm1, kt_c81, kt_c40, kt_c7, kt_c5, kt_c6, kt_c512, kt_c10, kt_c10000] at d_42
        refine lv_iconst (v := 0) hx hb dX11_isAlike_49 (by decide) ?_
        exact j_50 (0 : Int32) (by show 0 ≤ (0 : Int32).toInt ∧ (0 : Int32).toInt ≤ 1; decide) H _ hP hD hS ls (lv_sub hl [0, 1, 2, 3, 4] rfl)
      · have d_42 := c_42
        simp only [kt_lt, kt_le, kt_eq, kt_c0, kt_c1, kt_c2, kt_c3, kt_c4, kt_c8, kt_c9, kt_cm1, kt_c81, kt_c40, kt_c7, kt_c5, kt_c6, kt_c512, kt_c10, kt_c10000] at d_42
        refine lv_iconst (v := 1) hx hb dX11_isAlike_45 (by decide) ?_
        refine lv_goto (tgt := 50) hx hb dX11_isAlike_46 (by decide) ?_
        exact j_50 (1 : Int32) (by show 0 ≤ (1 : Int32).toInt ∧ (1 : Int32).toInt ≤ 1; decide) H _ hP hD hS ls (lv_sub hl [0, 1, 2, 3, 4] rfl)

set_option maxHeartbeats 4000000 in
set_option maxRecDepth 100000 in
theorem c_X11_cameBack (l : Launch) (D : va_G) (cI cZ cB : ClassId) (sz : Nat) (mx : Nat) (ms : Nat) (mk : Nat) (ma : Nat) (mo : Nat) (mg : Nat) (mm : Nat) (mt : Nat) (mn : Nat) (me : Nat) (mq : Nat) (mwo : Nat) (md : Nat) (mf : Nat) (mr : Nat) (ml : Int32) (mw : Int32) (mgl : Int32) (mhd : Int32) (mre : Int32) (mag : Int32) (mkt : Int32) (mho : Int32) (mpc : Int32) (msd : Int32) (mki : Int32) (mdn : Int32) (mun : Int32) (mtk : Int32) (msv : Int32) (gs_ : Nat → Int32) (p1 : Int32) (hp1 : 0 ≤ p1.toInt ∧ p1.toInt ≤ 4000) : kt_Mi l yX11_cameBack wsX11_cameBack { frames := 2, cells := 0, slots := 0, locals := 45 } D (kt_ty cI cZ cB) [.ref mx, .int p1] sz [(mx, .inr (11, [.int ml, .int mw, .ref ms, .int mgl, .int mhd, .int mre, .int mag, .int mkt, .int mho, .int mpc, .int msd, .int mki, .ref mk, .ref ma, .ref mo, .ref mg, .ref mm, .ref mt, .int mdn, .int mun, .ref mn, .int mtk, .ref me, .ref mq, .int msv, .ref mwo, .ref md, .ref mf, .ref mr])), (mt, .inl (cB, 172241, .inl gs_))] (fun (r : Int32) (u : Unit) => 0 ≤ r.toInt ∧ r.toInt ≤ 1) (fun (u : Unit) => [(mx, .inr (11, [.int ml, .int mw, .ref ms, .int mgl, .int mhd, .int mre, .int mag, .int mkt, .int mho, .int mpc, .int msd, .int mki, .ref mk, .ref ma, .ref mo, .ref mg, .ref mm, .ref mt, .int mdn, .int mun, .ref mn, .int mtk, .ref me, .ref mq, .int msv, .ref mwo, .ref md, .ref mf, .ref mr])), (mt, .inl (cB, 172241, .inl gs_))]) 0 0 := by
  refine kt_Mi.of (cc := cX11_cameBack) (maxL := 4) (ret := some .boolean) (by decide) rfl (Nat.le_of_ble_eq_true rfl) ?_
  intro p e s m below meth c A ls H hAt hP hD hS hl
  obtain ⟨hx, hb, hr, hml, hown, hts, hN, hK, hlk, hnm, hA⟩ := hAt
  have hl : lv_has ls 4 [(0, .ref mx), (1, .int p1)] := hl
  have hown : s.vm.findClass RX11 = some m.cls := hown
  refine lv_iconst (v := 0) hx hb dX11_cameBack_0 (by decide) ?_
  refine lv_istore_n (lv' := [(2, .int 0), (0, .ref mx), (1, .int p1)]) hx hb dX11_cameBack_1 rfl hl (by decide) rfl (fun ls hl => ?_)
  refine lv_iconst (v := 0) hx hb dX11_cameBack_2 (by decide) ?_
  refine lv_istore_n (lv' := [(3, .int 0), (2, .int 0), (0, .ref mx), (1, .int p1)]) hx hb dX11_cameBack_3 rfl hl (by decide) rfl (fun ls hl => ?_)
  refine kt_loop (σ := Int32 × Int32) 4 4 (fun u => [(mx, .inr (11, [.int ml, .int mw, .ref ms, .int mgl, .int mhd, .int mre, .int mag, .int mkt, .int mho, .int mpc, .int msd, .int mki, .ref mk, .ref ma, .ref mo, .ref mg, .ref mm, .ref mt, .int mdn, .int mun, .ref mn, .int mtk, .ref me, .ref mq, .int msv, .ref mwo, .ref md, .ref mf, .ref mr])), (mt, .inl (cB, 172241, .inl gs_))]) (fun u => [(3, .int u.1), (2, .int u.2), (0, .ref mx), (1, .int p1)]) (fun n u => (0 ≤ u.1.toInt ∧ u.1.toInt ≤ p1.toInt ∧ p1.toInt < u.1.toInt + n) ∧ 0 ≤ u.2.toInt ∧ u.2.toInt ≤ 1) (fun u h => by omega) (fun n_4 ih_4 u hI H locs hP hD hS ls hl => ?_) (p1.toInt.toNat + 1) ((0 : Int32), (0 : Int32)) (by show (0 ≤ (0 : Int32).toInt ∧ (0 : Int32).toInt ≤ p1.toInt ∧ p1.toInt < (0 : Int32).toInt + (p1.toInt.toNat + 1)) ∧ 0 ≤ (0 : Int32).toInt ∧ (0 : Int32).toInt ≤ 1; exact ⟨⟨by decide, by rw [kt_c0]; omega, by rw [kt_c0]; omega⟩, by decide⟩) hP hD hS (lv_sub hl [0, 1, 2, 3] rfl)
  obtain ⟨i, cz⟩ := u
  have hP : va_P D vwCl [(mx, .inr (11, [.int ml, .int mw, .ref ms, .int mgl, .int mhd, .int mre, .int mag, .int mkt, .int mho, .int mpc, .int msd, .int mki, .ref mk, .ref ma, .ref mo, .ref mg, .ref mm, .ref mt, .int mdn, .int mun, .ref mn, .int mtk, .ref me, .ref mq, .int msv, .ref mwo, .ref md, .ref mf, .ref mr])), (mt, .inl (cB, 172241, .inl gs_))] H := hP
  have hD : va_D A [(mx, .inr (11, [.int ml, .int mw, .ref ms, .int mgl, .int mhd, .int mre, .int mag, .int mkt, .int mho, .int mpc, .int msd, .int mki, .ref mk, .ref ma, .ref mo, .ref mg, .ref mm, .ref mt, .int mdn, .int mun, .ref mn, .int mtk, .ref me, .ref mq, .int msv, .ref mwo, .ref md, .ref mf, .ref mr])), (mt, .inl (cB, 172241, .inl gs_))] := hD
  have hl : lv_has ls 4 [(3, .int i), (2, .int cz), (0, .ref mx), (1, .int p1)] := hl
  have hI : (0 ≤ i.toInt ∧ i.toInt ≤ p1.toInt ∧ p1.toInt < i.toInt + (n_4 + 1)) ∧ 0 ≤ cz.toInt ∧ cz.toInt ≤ 1 := hI
  obtain ⟨hkb, hcz⟩ := hI
  refine lv_iload_n hx hb dX11_cameBack_4 rfl (lv_at hl 0 rfl) ?_
  refine lv_iload_n hx hb dX11_cameBack_5 rfl (lv_at hl 3 rfl) ?_
  refine lv_icmp_ge (tgt := 26) hx hb dX11_cameBack_6 (by decide) (fun c_6 => ?_) (fun c_6 => ?_)
  · have d_6 := c_6
    simp only [kt_lt, kt_le, kt_eq, kt_c0, kt_c1, kt_c2, kt_c3, kt_c4, kt_c8, kt_c9, kt_cm1, kt_c81, kt_c40, kt_c7, kt_c5, kt_c6, kt_c512, kt_c10, kt_c10000] at d_6
    refine lv_iload_n hx hb dX11_cameBack_26 rfl (lv_at hl 1 rfl) ?_
    exact kt_rz () hx hb hr hlk hS dX11_cameBack_27 hP hD (by show 0 ≤ cz.toInt ∧ cz.toInt ≤ 1; exact hcz) (by exact kt_z hcz.1 hcz.2)
  · have d_6 := c_6
    simp only [kt_lt, kt_le, kt_eq, kt_c0, kt_c1, kt_c2, kt_c3, kt_c4, kt_c8, kt_c9, kt_cm1, kt_c81, kt_c40, kt_c7, kt_c5, kt_c6, kt_c512, kt_c10, kt_c10000] at d_6
    refine lv_iload_n hx hb dX11_cameBack_9 rfl (lv_at hl 1 rfl) ?_
    refine lv_if_ne (tgt := 26) hx hb dX11_cameBack_10 (by decide) (fun c_10 => ?_) (fun c_10 => ?_)
    · have d_10 := c_10
      simp only [kt_lt, kt_le, kt_eq, kt_c0, kt_c1, kt_c2, kt_c3, kt_c4, kt_c8, kt_c9, kt_cm1, kt_c81, kt_c40, kt_c7, kt_c5, kt_c6, kt_c512, kt_c10, kt_c10000] at d_10
      refine lv_iload_n hx hb dX11_cameBack_26 rfl (lv_at hl 1 rfl) ?_
      exact kt_rz () hx hb hr hlk hS dX11_cameBack_27 hP hD (by show 0 ≤ cz.toInt ∧ cz.toInt ≤ 1; exact hcz) (by exact kt_z hcz.1 hcz.2)
    · have d_10 := c_10
      simp only [kt_lt, kt_le, kt_eq, kt_c0, kt_c1, kt_c2, kt_c3, kt_c4, kt_c8, kt_c9, kt_cm1, kt_c81, kt_c40, kt_c7, kt_c5, kt_c6, kt_c512, kt_c10, kt_c10000] at d_10
      refine lv_aload_n hx hb dX11_cameBack_13 rfl (lv_at hl 2 rfl) ?_
      refine lv_iload_n hx hb dX11_cameBack_14 rfl (lv_at hl 0 rfl) ?_
      refine lv_iload_n hx hb dX11_cameBack_15 rfl (lv_at hl 3 rfl) ?_
      refine kt_pi (wc := [(mx, .inr (11, [.int ml, .int mw, .ref ms, .int mgl, .int mhd, .int mre, .int mag, .int mkt, .int mho, .int mpc, .int msd, .int mki, .ref mk, .ref ma, .ref mo, .ref mg, .ref mm, .ref mt, .int mdn, .int mun, .ref mn, .int mtk, .ref me, .ref mq, .int msv, .ref mwo, .ref md, .ref mf, .ref mr])), (mt, .inl (cB, 172241, .inl gs_))]) [0, 1] hP hD hS hA rfl (by decide) (fun hPc hDc => va_runV (As := [.int i, .int p1]) (rest := []) ⟨hx, hb, hml, hown, hts⟩ (c_X11_isAlike l D cI cZ cB H.size mx ms mk ma mo mg mm mt mn me mq mwo md mf mr ml mw mgl mhd mre mag mkt mho mpc msd mki mdn mun mtk msv gs_ i p1 (by first | assumption | omega | rfl | decide) (by first | assumption | omega | rfl | decide)) (cwV 2 hts gX11_cameBack_X11_isAlike rfl rfl rfl (by decide +kernel) ⟨Nat.le_of_ble_eq_true rfl, Nat.le_of_ble_eq_true rfl⟩) (kt_preV hN hK hPc hDc 0 (ci := 11) (q := (RX11, TX11, 29)) rfl rfl) rfl rfl hl.1 rfl (lv_room (Nat.le_of_ble_eq_true rfl)) dX11_cameBack_16 ⟨Nat.le_of_ble_eq_true rfl, Nat.le_of_ble_eq_true rfl⟩) (fun r_16 _ H locs hw_16 hP hS => ?_)
      refine lv_istore_n (lv' := [(2, .int r_16), (3, .int i), (0, .ref mx), (1, .int p1)]) hx hb dX11_cameBack_19 rfl hl (by decide) rfl (fun ls hl => ?_)
      obtain ⟨t_20, et_20⟩ : ∃ y : Int32, y = i + 1 := ⟨_, rfl⟩
      obtain ⟨k_20, hk_20, hm_20, hM_20⟩ := kt_addk et_20
      try simp only [kt_c0, kt_c1, kt_c2, kt_c3, kt_c4, kt_c8, kt_c9, kt_cm1, kt_c81, kt_c40, kt_c7, kt_c5, kt_c6, kt_c512, kt_c10, kt_c10000] at hk_20
      refine lv_iinc (v := t_20) (lv' := [(3, .int t_20), (2, .int r_16), (0, .ref mx), (1, .int p1)]) hx hb dX11_cameBack_20 hl (k := 1) rfl (by rw [et_20]; rfl) (by decide) rfl (fun ls hl => ?_)
      refine lv_goto (tgt := 4) hx hb dX11_cameBack_23 (by decide) ?_
      exact ih_4 (t_20, r_16) (by show (0 ≤ t_20.toInt ∧ t_20.toInt ≤ p1.toInt ∧ p1.toInt < t_20.toInt + n_4) ∧ 0 ≤ r_16.toInt ∧ r_16.toInt ≤ 1; exact ⟨by omega, hw_16⟩) H _ hP hD hS ls (lv_sub hl [0, 1, 2, 3] rfl)

theorem iw_X11_lookAgain_X11 : ∀ w ∈ wsX110, w ∈ wsX11_lookAgain := fun _ h => kt_wp_X11_lookAgain__X110 h
set_option maxHeartbeats 4000000 in
set_option maxRecDepth 100000 in
theorem c_X11_lookAgain (l : Launch) (D : va_G) (cI cZ cB : ClassId) (sz : Nat) (mx : Nat) (ms : Nat) (mk : Nat) (ma : Nat) (mo : Nat) (mg : Nat) (mm : Nat) (mt : Nat) (mn : Nat) (me : Nat) (mq : Nat) (mwo : Nat) (md : Nat) (mf : Nat) (mr : Nat) (ml : Int32) (mw : Int32) (mgl : Int32) (mhd : Int32) (mre : Int32) (mag : Int32) (mkt : Int32) (mho : Int32) (mpc : Int32) (msd : Int32) (mki : Int32) (mdn : Int32) (mun : Int32) (mtk : Int32) (msv : Int32) (P_ : Nat) (gs_ : Nat → Int32) (ft : Nat → Int32) (hpc : (P_ : Int) = mpc.toInt ∧ P_ ≤ 40) (hdm : 0 ≤ mdn.toInt ∧ mdn.toInt ≤ 4000) : kt_Mv l yX11_lookAgain wsX11_lookAgain { frames := 1, cells := 0, slots := 0, locals := 21 } D (kt_ty cI cZ cB) [.ref mx] sz [(mx, .inr (11, [.int ml, .int mw, .ref ms, .int mgl, .int mhd, .int mre, .int mag, .int mkt, .int mho, .int mpc, .int msd, .int mki, .ref mk, .ref ma, .ref mo, .ref mg, .ref mm, .ref mt, .int mdn, .int mun, .ref mn, .int mtk, .ref me, .ref mq, .int msv, .ref mwo, .ref md, .ref mf, .ref mr])), (mt, .inl (cB, 172241, .inl gs_)), (mn, .inl (cZ, 40, .inl ft))] (fun (u : Int32 × (Nat → Int32)) => True) (fun (u : Int32 × (Nat → Int32)) => [(mx, .inr (11, [.int ml, .int mw, .ref ms, .int mgl, .int mhd, .int mre, .int mag, .int mkt, .int mho, .int mpc, .int msd, .int mki, .ref mk, .ref ma, .ref mo, .ref mg, .ref mm, .ref mt, .int mdn, .int mun, .ref mn, .int u.1, .ref me, .ref mq, .int msv, .ref mwo, .ref md, .ref mf, .ref mr])), (mt, .inl (cB, 172241, .inl gs_)), (mn, .inl (cZ, 40, .inl u.2))]) 0 0 := by
  refine kt_Mv.of (cc := cX11_lookAgain) (maxL := 2) (ret := none) (by decide) rfl (Nat.le_of_ble_eq_true rfl) ?_
  intro p e s m below meth c A ls H hAt hP hD hS hl
  obtain ⟨hx, hb, hr, hml, hown, hts, hN, hK, hlk, hnm, hA⟩ := hAt
  have hl : lv_has ls 2 [(0, .ref mx)] := hl
  have hown : s.vm.findClass RX11 = some m.cls := hown
  refine lv_aload_n hx hb dX11_lookAgain_0 rfl (lv_at hl 0 rfl) ?_
  refine lv_aload_n hx hb dX11_lookAgain_1 rfl (lv_at hl 0 rfl) ?_
  refine va_get (D := D) (ci := 11) (C := RX11) (T := TX11) (N := 29) hx hb hts iw_X11_lookAgain_X11 hown hK hP 0 rfl rfl 18 (by decide) (hts (.fieldLink RX11 138 "KingTableModel" "done" "I") (List.mem_cons_of_mem _ (List.mem_append_left _ (List.Mem.head _)))) (fun _ h9 => h9) rfl dX11_lookAgain_2 ?_
  refine kt_join (σ := Int32) 13 2 (fun u => [(mx, .inr (11, [.int ml, .int mw, .ref ms, .int mgl, .int mhd, .int mre, .int mag, .int mkt, .int mho, .int mpc, .int msd, .int mki, .ref mk, .ref ma, .ref mo, .ref mg, .ref mm, .ref mt, .int mdn, .int mun, .ref mn, .int mtk, .ref me, .ref mq, .int msv, .ref mwo, .ref md, .ref mf, .ref mr])), (mt, .inl (cB, 172241, .inl gs_)), (mn, .inl (cZ, 40, .inl ft))]) (fun u => [(0, .ref mx)]) (fun u => [.int u, .ref mx]) (fun u => True) (D := D) (A := A) (H0 := s.heap) (fun u hI H locs hP hD hS ls hl => ?_) (fun j_13 => ?_)
  · obtain ⟨v, rfl⟩ : ∃ z, z = u := ⟨_, rfl⟩
    have hP : va_P D vwCl [(mx, .inr (11, [.int ml, .int mw, .ref ms, .int mgl, .int mhd, .int mre, .int mag, .int mkt, .int mho, .int mpc, .int msd, .int mki, .ref mk, .ref ma, .ref mo, .ref mg, .ref mm, .ref mt, .int mdn, .int mun, .ref mn, .int mtk, .ref me, .ref mq, .int msv, .ref mwo, .ref md, .ref mf, .ref mr])), (mt, .inl (cB, 172241, .inl gs_)), (mn, .inl (cZ, 40, .inl ft))] H := hP
    have hD : va_D A [(mx, .inr (11, [.int ml, .int mw, .ref ms, .int mgl, .int mhd, .int mre, .int mag, .int mkt, .int mho, .int mpc, .int msd, .int mki, .ref mk, .ref ma, .ref mo, .ref mg, .ref mm, .ref mt, .int mdn, .int mun, .ref mn, .int mtk, .ref me, .ref mq, .int msv, .ref mwo, .ref md, .ref mf, .ref mr])), (mt, .inl (cB, 172241, .inl gs_)), (mn, .inl (cZ, 40, .inl ft))] := hD
    have hl : lv_has ls 2 [(0, .ref mx)] := hl
    refine va_put (D := D) (ci := 11) (v := .int v) (ty := .int) (C := RX11) (T := TX11) (N := 29) hx hb hts iw_X11_lookAgain_X11 tyX11 tyX11_ok nmX11 hown hK hP hD hS 0 rfl rfl 21 (by decide) (hts (.fieldLink RX11 120 "KingTableModel" "tookMany" "I") (List.mem_cons_of_mem _ (List.mem_append_left _ (List.mem_cons_of_mem _ (List.Mem.head _))))) (fun _ h9 => h9) rfl (by decide +kernel) rfl rfl (Nat.le_of_ble_eq_true rfl) dX11_lookAgain_13 (fun H locs hP hD hS => ?_)
    have hP : va_P D vwCl [(mx, .inr (11, [.int ml, .int mw, .ref ms, .int mgl, .int mhd, .int mre, .int mag, .int mkt, .int mho, .int mpc, .int msd, .int mki, .ref mk, .ref ma, .ref mo, .ref mg, .ref mm, .ref mt, .int mdn, .int mun, .ref mn, .int v, .ref me, .ref mq, .int msv, .ref mwo, .ref md, .ref mf, .ref mr])), (mt, .inl (cB, 172241, .inl gs_)), (mn, .inl (cZ, 40, .inl ft))] H := hP
    have hD : va_D A [(mx, .inr (11, [.int ml, .int mw, .ref ms, .int mgl, .int mhd, .int mre, .int mag, .int mkt, .int mho, .int mpc, .int msd, .int mki, .ref mk, .ref ma, .ref mo, .ref mg, .ref mm, .ref mt, .int mdn, .int mun, .ref mn, .int v, .ref me, .ref mq, .int msv, .ref mwo, .ref md, .ref mf, .ref mr])), (mt, .inl (cB, 172241, .inl gs_)), (mn, .inl (cZ, 40, .inl ft))] := hD
    refine lv_iconst (v := 0) hx hb dX11_lookAgain_16 (by decide) ?_
    refine lv_istore_n (lv' := [(1, .int 0), (0, .ref mx)]) hx hb dX11_lookAgain_17 rfl hl (by decide) rfl (fun ls hl => ?_)
    refine kt_loop (σ := Nat × Int32 × (Nat → Int32)) 18 2 (fun u => [(mx, .inr (11, [.int ml, .int mw, .ref ms, .int mgl, .int mhd, .int mre, .int mag, .int mkt, .int mho, .int mpc, .int msd, .int mki, .ref mk, .ref ma, .ref mo, .ref mg, .ref mm, .ref mt, .int mdn, .int mun, .ref mn, .int u.2.1, .ref me, .ref mq, .int msv, .ref mwo, .ref md, .ref mf, .ref mr])), (mt, .inl (cB, 172241, .inl gs_)), (mn, .inl (cZ, 40, .inl u.2.2))]) (fun u => [(1, .int (nI u.1)), (0, .ref mx)]) (fun n u => u.1 ≤ 40 ∧ 40 < u.1 + n) (fun u h => by omega) (fun n_18 ih_18 u hI H locs hP hD hS ls hl => ?_) (41) (0, v, ft) (by show 0 ≤ 40 ∧ 40 < 0 + 41; exact ⟨by decide, by decide⟩) hP hD hS (lv_sub hl [0, 1] rfl)
    obtain ⟨k, tm, g⟩ := u
    have hP : va_P D vwCl [(mx, .inr (11, [.int ml, .int mw, .ref ms, .int mgl, .int mhd, .int mre, .int mag, .int mkt, .int mho, .int mpc, .int msd, .int mki, .ref mk, .ref ma, .ref mo, .ref mg, .ref mm, .ref mt, .int mdn, .int mun, .ref mn, .int tm, .ref me, .ref mq, .int msv, .ref mwo, .ref md, .ref mf, .ref mr])), (mt, .inl (cB, 172241, .inl gs_)), (mn, .inl (cZ, 40, .inl g))] H := hP
    have hD : va_D A [(mx, .inr (11, [.int ml, .int mw, .ref ms, .int mgl, .int mhd, .int mre, .int mag, .int mkt, .int mho, .int mpc, .int msd, .int mki, .ref mk, .ref ma, .ref mo, .ref mg, .ref mm, .ref mt, .int mdn, .int mun, .ref mn, .int tm, .ref me, .ref mq, .int msv, .ref mwo, .ref md, .ref mf, .ref mr])), (mt, .inl (cB, 172241, .inl gs_)), (mn, .inl (cZ, 40, .inl g))] := hD
    have hl : lv_has ls 2 [(1, .int (nI k)), (0, .ref mx)] := hl
    have hI : k ≤ 40 ∧ 40 < k + (n_18 + 1) := hI
    have hk0 := kt_nI (n := k) (by omega)
    refine lv_iload_n hx hb dX11_lookAgain_18 rfl (lv_at hl 0 rfl) ?_
    refine lv_aload_n hx hb dX11_lookAgain_19 rfl (lv_at hl 1 rfl) ?_
    refine va_get (D := D) (ci := 11) (C := RX11) (T := TX11) (N := 29) hx hb hts iw_X11_lookAgain_X11 hown hK hP 0 rfl rfl 9 (by decide) (hts (.fieldLink RX11 103 "KingTableModel" "pieces" "I") (List.mem_cons_of_mem _ (List.mem_append_left _ (List.mem_cons_of_mem _ (List.mem_cons_of_mem _ (List.Mem.head _)))))) (fun _ h9 => h9) rfl dX11_lookAgain_20 ?_
    refine lv_icmp_ge (tgt := 109) hx hb dX11_lookAgain_23 (by decide) (fun c_23 => ?_) (fun c_23 => ?_)
    · have d_23 := c_23
      simp only [kt_lt, kt_le, kt_eq, kt_c0, kt_c1, kt_c2, kt_c3, kt_c4, kt_c8, kt_c9, kt_cm1, kt_c81, kt_c40, kt_c7, kt_c5, kt_c6, kt_c512, kt_c10, kt_c10000] at d_23
      exact kt_rv (tm, g) hx hb hr hlk hS dX11_lookAgain_109 hP hD (by show True; trivial)
    · have d_23 := c_23
      simp only [kt_lt, kt_le, kt_eq, kt_c0, kt_c1, kt_c2, kt_c3, kt_c4, kt_c8, kt_c9, kt_cm1, kt_c81, kt_c40, kt_c7, kt_c5, kt_c6, kt_c512, kt_c10, kt_c10000] at d_23
      refine lv_aload_n hx hb dX11_lookAgain_26 rfl (lv_at hl 1 rfl) ?_
      refine va_get (D := D) (ci := 11) (C := RX11) (T := TX11) (N := 29) hx hb hts iw_X11_lookAgain_X11 hown hK hP 0 rfl rfl 20 (by decide) (hts (.fieldLink RX11 47 "KingTableModel" "taken" "[Z") (List.mem_cons_of_mem _ (List.mem_append_left _ (List.mem_cons_of_mem _ (List.mem_cons_of_mem _ (List.mem_cons_of_mem _ (List.Mem.head _))))))) (fun _ h9 => h9) rfl dX11_lookAgain_27 ?_
      refine lv_iload_n hx hb dX11_lookAgain_30 rfl (lv_at hl 0 rfl) ?_
      refine lv_aload_n hx hb dX11_lookAgain_31 rfl (lv_at hl 1 rfl) ?_
      refine va_get (D := D) (ci := 11) (C := RX11) (T := TX11) (N := 29) hx hb hts iw_X11_lookAgain_X11 hown hK hP 0 rfl rfl 18 (by decide) (hts (.fieldLink RX11 138 "KingTableModel" "done" "I") (List.mem_cons_of_mem _ (List.mem_append_left _ (List.Mem.head _)))) (fun _ h9 => h9) rfl dX11_lookAgain_32 ?_
      refine kt_join (σ := Int32) 83 2 (fun u => [(mx, .inr (11, [.int ml, .int mw, .ref ms, .int mgl, .int mhd, .int mre, .int mag, .int mkt, .int mho, .int mpc, .int msd, .int mki, .ref mk, .ref ma, .ref mo, .ref mg, .ref mm, .ref mt, .int mdn, .int mun, .ref mn, .int tm, .ref me, .ref mq, .int msv, .ref mwo, .ref md, .ref mf, .ref mr])), (mt, .inl (cB, 172241, .inl gs_)), (mn, .inl (cZ, 40, .inl g))]) (fun u => [(1, .int (nI k)), (0, .ref mx)]) (fun u => [.int u, .int (nI k), .ref mn]) (fun u => True) (D := D) (A := A) (H0 := s.heap) (fun u hI H locs hP hD hS ls hl => ?_) (fun j_83 => ?_)
      · obtain ⟨w, rfl⟩ : ∃ z, z = u := ⟨_, rfl⟩
        have hP : va_P D vwCl [(mx, .inr (11, [.int ml, .int mw, .ref ms, .int mgl, .int mhd, .int mre, .int mag, .int mkt, .int mho, .int mpc, .int msd, .int mki, .ref mk, .ref ma, .ref mo, .ref mg, .ref mm, .ref mt, .int mdn, .int mun, .ref mn, .int tm, .ref me, .ref mq, .int msv, .ref mwo, .ref md, .ref mf, .ref mr])), (mt, .inl (cB, 172241, .inl gs_)), (mn, .inl (cZ, 40, .inl g))] H := hP
        have hD : va_D A [(mx, .inr (11, [.int ml, .int mw, .ref ms, .int mgl, .int mhd, .int mre, .int mag, .int mkt, .int mho, .int mpc, .int msd, .int mki, .ref mk, .ref ma, .ref mo, .ref mg, .ref mm, .ref mt, .int mdn, .int mun, .ref mn, .int tm, .ref me, .ref mq, .int msv, .ref mwo, .ref md, .ref mf, .ref mr])), (mt, .inl (cB, 172241, .inl gs_)), (mn, .inl (cZ, 40, .inl g))] := hD
        have hl : lv_has ls 2 [(1, .int (nI k)), (0, .ref mx)] := hl
        have hi_1 : vp_in (nI k) 40 := by exact kt_in (by omega) (by omega)
        refine va_zast hx hb hK hP hD hS 2 1 rfl rfl hi_1 dX11_lookAgain_83 (fun H locs hP hD hS => ?_)
        have hP : va_P D vwCl [(mx, .inr (11, [.int ml, .int mw, .ref ms, .int mgl, .int mhd, .int mre, .int mag, .int mkt, .int mho, .int mpc, .int msd, .int mki, .ref mk, .ref ma, .ref mo, .ref mg, .ref mm, .ref mt, .int mdn, .int mun, .ref mn, .int tm, .ref me, .ref mq, .int msv, .ref mwo, .ref md, .ref mf, .ref mr])), (mt, .inl (cB, 172241, .inl gs_)), (mn, .inl (cZ, 40, .inl (upd g (nI k).toNatClampNeg (vp_nar .boolean w))))] H := hP
        have hD : va_D A [(mx, .inr (11, [.int ml, .int mw, .ref ms, .int mgl, .int mhd, .int mre, .int mag, .int mkt, .int mho, .int mpc, .int msd, .int mki, .ref mk, .ref ma, .ref mo, .ref mg, .ref mm, .ref mt, .int mdn, .int mun, .ref mn, .int tm, .ref me, .ref mq, .int msv, .ref mwo, .ref md, .ref mf, .ref mr])), (mt, .inl (cB, 172241, .inl gs_)), (mn, .inl (cZ, 40, .inl (upd g (nI k).toNatClampNeg (vp_nar .boolean w))))] := hD
        refine lv_aload_n hx hb dX11_lookAgain_84 rfl (lv_at hl 1 rfl) ?_
        refine va_get (D := D) (ci := 11) (C := RX11) (T := TX11) (N := 29) hx hb hts iw_X11_lookAgain_X11 hown hK hP 0 rfl rfl 20 (by decide) (hts (.fieldLink RX11 47 "KingTableModel" "taken" "[Z") (List.mem_cons_of_mem _ (List.mem_append_left _ (List.mem_cons_of_mem _ (List.mem_cons_of_mem _ (List.mem_cons_of_mem _ (List.Mem.head _))))))) (fun _ h9 => h9) rfl dX11_lookAgain_85 ?_
        refine lv_iload_n hx hb dX11_lookAgain_88 rfl (lv_at hl 0 rfl) ?_
        have hi_2 : vp_in (nI k) 40 := by exact kt_in (by omega) (by omega)
        refine va_zald hx hb hK hP 2 1 rfl rfl hi_2 dX11_lookAgain_89 ?_
        refine lv_topi (fun a_89 ea_89 => ?_)
        refine lv_if_eq (tgt := 103) hx hb dX11_lookAgain_90 (by decide) (fun c_90 => ?_) (fun c_90 => ?_)
        · have d_90 := c_90
          simp only [kt_lt, kt_le, kt_eq, kt_c0, kt_c1, kt_c2, kt_c3, kt_c4, kt_c8, kt_c9, kt_cm1, kt_c81, kt_c40, kt_c7, kt_c5, kt_c6, kt_c512, kt_c10, kt_c10000] at d_90
          refine lv_iinc (v := nI (k + 1)) (lv' := [(1, .int (nI (k + 1))), (0, .ref mx)]) hx hb dX11_lookAgain_103 hl (k := 0) rfl (nI_1 _) (by decide) rfl (fun ls hl => ?_)
          refine lv_goto (tgt := 18) hx hb dX11_lookAgain_106 (by decide) ?_
          exact ih_18 ((k + 1), tm, (upd g (nI k).toNatClampNeg (vp_nar .boolean w))) (by show (k + 1) ≤ 40 ∧ 40 < (k + 1) + n_18; omega) H _ hP hD hS ls (lv_sub hl [0, 1] rfl)
        · have d_90 := c_90
          simp only [kt_lt, kt_le, kt_eq, kt_c0, kt_c1, kt_c2, kt_c3, kt_c4, kt_c8, kt_c9, kt_cm1, kt_c81, kt_c40, kt_c7, kt_c5, kt_c6, kt_c512, kt_c10, kt_c10000] at d_90
          refine lv_aload_n hx hb dX11_lookAgain_93 rfl (lv_at hl 1 rfl) ?_
          refine lv_dup hx hb dX11_lookAgain_94 rfl ?_
          refine va_get (D := D) (ci := 11) (C := RX11) (T := TX11) (N := 29) hx hb hts iw_X11_lookAgain_X11 hown hK hP 0 rfl rfl 21 (by decide) (hts (.fieldLink RX11 120 "KingTableModel" "tookMany" "I") (List.mem_cons_of_mem _ (List.mem_append_left _ (List.mem_cons_of_mem _ (List.Mem.head _))))) (fun _ h9 => h9) rfl dX11_lookAgain_95 ?_
          refine lv_iconst (v := 1) hx hb dX11_lookAgain_98 (by decide) ?_
          refine lv_iadd hx hb dX11_lookAgain_99 ?_
          refine lv_topi (fun t_99 et_99 => ?_)
          first | have hk_99 := kt_addx et_99 (by first | omega | (simp only [kt_c0, kt_c1, kt_c2, kt_c3, kt_c4, kt_c8, kt_c9, kt_cm1, kt_c81, kt_c40, kt_c7, kt_c5, kt_c6, kt_c512, kt_c10, kt_c10000]; omega)) (by first | omega | (simp only [kt_c0, kt_c1, kt_c2, kt_c3, kt_c4, kt_c8, kt_c9, kt_cm1, kt_c81, kt_c40, kt_c7, kt_c5, kt_c6, kt_c512, kt_c10, kt_c10000]; omega)) | obtain ⟨k_99, hk_99, hm_99, hM_99⟩ := kt_addk et_99
          try simp only [kt_c0, kt_c1, kt_c2, kt_c3, kt_c4, kt_c8, kt_c9, kt_cm1, kt_c81, kt_c40, kt_c7, kt_c5, kt_c6, kt_c512, kt_c10, kt_c10000] at hk_99
          refine va_put (D := D) (ci := 11) (v := .int t_99) (ty := .int) (C := RX11) (T := TX11) (N := 29) hx hb hts iw_X11_lookAgain_X11 tyX11 tyX11_ok nmX11 hown hK hP hD hS 0 rfl rfl 21 (by decide) (hts (.fieldLink RX11 120 "KingTableModel" "tookMany" "I") (List.mem_cons_of_mem _ (List.mem_append_left _ (List.mem_cons_of_mem _ (List.Mem.head _))))) (fun _ h9 => h9) rfl (by decide +kernel) rfl rfl (Nat.le_of_ble_eq_true rfl) dX11_lookAgain_100 (fun H locs hP hD hS => ?_)
          have hP : va_P D vwCl [(mx, .inr (11, [.int ml, .int mw, .ref ms, .int mgl, .int mhd, .int mre, .int mag, .int mkt, .int mho, .int mpc, .int msd, .int mki, .ref mk, .ref ma, .ref mo, .ref mg, .ref mm, .ref mt, .int mdn, .int mun, .ref mn, .int t_99, .ref me, .ref mq, .int msv, .ref mwo, .ref md, .ref mf, .ref mr])), (mt, .inl (cB, 172241, .inl gs_)), (mn, .inl (cZ, 40, .inl (upd g (nI k).toNatClampNeg (vp_nar .boolean w))))] H := hP
          have hD : va_D A [(mx, .inr (11, [.int ml, .int mw, .ref ms, .int mgl, .int mhd, .int mre, .int mag, .int mkt, .int mho, .int mpc, .int msd, .int mki, .ref mk, .ref ma, .ref mo, .ref mg, .ref mm, .ref mt, .int mdn, .int mun, .ref mn, .int t_99, .ref me, .ref mq, .int msv, .ref mwo, .ref md, .ref mf, .ref mr])), (mt, .inl (cB, 172241, .inl gs_)), (mn, .inl (cZ, 40, .inl (upd g (nI k).toNatClampNeg (vp_nar .boolean w))))] := hD
          refine lv_iinc (v := nI (k + 1)) (lv' := [(1, .int (nI (k + 1))), (0, .ref mx)]) hx hb dX11_lookAgain_103 hl (k := 0) rfl (nI_1 _) (by decide) rfl (fun ls hl => ?_)
          refine lv_goto (tgt := 18) hx hb dX11_lookAgain_106 (by decide) ?_
          exact ih_18 ((k + 1), t_99, (upd g (nI k).toNatClampNeg (vp_nar .boolean w))) (by show (k + 1) ≤ 40 ∧ 40 < (k + 1) + n_18; omega) H _ hP hD hS ls (lv_sub hl [0, 1] rfl)
      refine lv_if_le (tgt := 82) hx hb dX11_lookAgain_35 (by decide) (fun c_35 => ?_) (fun c_35 => ?_)
      · have d_35 := c_35
        simp only [kt_lt, kt_le, kt_eq, kt_c0, kt_c1, kt_c2, kt_c3, kt_c4, kt_c8, kt_c9, kt_cm1, kt_c81, kt_c40, kt_c7, kt_c5, kt_c6, kt_c512, kt_c10, kt_c10000] at d_35
        refine lv_iconst (v := 0) hx hb dX11_lookAgain_82 (by decide) ?_
        exact j_83 (0 : Int32) (by trivial) H _ hP hD hS ls (lv_sub hl [0, 1] rfl)
      · have d_35 := c_35
        simp only [kt_lt, kt_le, kt_eq, kt_c0, kt_c1, kt_c2, kt_c3, kt_c4, kt_c8, kt_c9, kt_cm1, kt_c81, kt_c40, kt_c7, kt_c5, kt_c6, kt_c512, kt_c10, kt_c10000] at d_35
        refine lv_aload_n hx hb dX11_lookAgain_38 rfl (lv_at hl 1 rfl) ?_
        refine va_get (D := D) (ci := 11) (C := RX11) (T := TX11) (N := 29) hx hb hts iw_X11_lookAgain_X11 hown hK hP 0 rfl rfl 17 (by decide) (hts (.fieldLink RX11 43 "KingTableModel" "stood" "[B") (List.mem_cons_of_mem _ (List.mem_append_left _ (List.mem_cons_of_mem _ (List.mem_cons_of_mem _ (List.mem_cons_of_mem _ (List.mem_cons_of_mem _ (List.Mem.head _)))))))) (fun _ h9 => h9) rfl dX11_lookAgain_39 ?_
        refine lv_aload_n hx hb dX11_lookAgain_42 rfl (lv_at hl 1 rfl) ?_
        refine lv_aload_n hx hb dX11_lookAgain_43 rfl (lv_at hl 1 rfl) ?_
        refine va_get (D := D) (ci := 11) (C := RX11) (T := TX11) (N := 29) hx hb hts iw_X11_lookAgain_X11 hown hK hP 0 rfl rfl 18 (by decide) (hts (.fieldLink RX11 138 "KingTableModel" "done" "I") (List.mem_cons_of_mem _ (List.mem_append_left _ (List.Mem.head _)))) (fun _ h9 => h9) rfl dX11_lookAgain_44 ?_
        refine lv_iconst (v := 1) hx hb dX11_lookAgain_47 (by decide) ?_
        refine lv_isub hx hb dX11_lookAgain_48 ?_
        refine lv_topi (fun t_48 et_48 => ?_)
        first | have hk_48 := kt_subx et_48 (by first | omega | (simp only [kt_c0, kt_c1, kt_c2, kt_c3, kt_c4, kt_c8, kt_c9, kt_cm1, kt_c81, kt_c40, kt_c7, kt_c5, kt_c6, kt_c512, kt_c10, kt_c10000]; omega)) (by first | omega | (simp only [kt_c0, kt_c1, kt_c2, kt_c3, kt_c4, kt_c8, kt_c9, kt_cm1, kt_c81, kt_c40, kt_c7, kt_c5, kt_c6, kt_c512, kt_c10, kt_c10000]; omega)) | obtain ⟨k_48, hk_48, hm_48, hM_48⟩ := kt_subk et_48
        try simp only [kt_c0, kt_c1, kt_c2, kt_c3, kt_c4, kt_c8, kt_c9, kt_cm1, kt_c81, kt_c40, kt_c7, kt_c5, kt_c6, kt_c512, kt_c10, kt_c10000] at hk_48
        refine kt_pi (wc := [(mx, .inr (11, [.int ml, .int mw, .ref ms, .int mgl, .int mhd, .int mre, .int mag, .int mkt, .int mho, .int mpc, .int msd, .int mki, .ref mk, .ref ma, .ref mo, .ref mg, .ref mm, .ref mt, .int mdn, .int mun, .ref mn, .int tm, .ref me, .ref mq, .int msv, .ref mwo, .ref md, .ref mf, .ref mr]))]) [0] hP hD hS hA rfl (by decide) (fun hPc hDc => va_runV (As := [.int t_48]) (rest := [.ref mt, .int (nI k), .ref mn]) ⟨hx, hb, hml, hown, hts⟩ (c_X11_row l D cI cZ cB H.size mx ms mk ma mo mg mm mt mn me mq mwo md mf mr ml mw mgl mhd mre mag mkt mho mpc msd mki mdn mun tm msv t_48 (by first | assumption | omega | rfl | decide)) (cwV 1 hts gX11_lookAgain_X11_row rfl rfl rfl (by decide +kernel) ⟨Nat.le_of_ble_eq_true rfl, Nat.le_of_ble_eq_true rfl⟩) (kt_preV hN hK hPc hDc 0 (ci := 11) (q := (RX11, TX11, 29)) rfl rfl) rfl rfl hl.1 rfl (lv_room (Nat.le_of_ble_eq_true rfl)) dX11_lookAgain_49 ⟨Nat.le_of_ble_eq_true rfl, Nat.le_of_ble_eq_true rfl⟩) (fun r_49 _ H locs hw_49 hP hS => ?_)
        refine lv_iload_n hx hb dX11_lookAgain_52 rfl (lv_at hl 0 rfl) ?_
        refine lv_iadd hx hb dX11_lookAgain_53 ?_
        refine lv_topi (fun t_53 et_53 => ?_)
        first | have hk_53 := kt_addx et_53 (by first | omega | (simp only [kt_c0, kt_c1, kt_c2, kt_c3, kt_c4, kt_c8, kt_c9, kt_cm1, kt_c81, kt_c40, kt_c7, kt_c5, kt_c6, kt_c512, kt_c10, kt_c10000]; omega)) (by first | omega | (simp only [kt_c0, kt_c1, kt_c2, kt_c3, kt_c4, kt_c8, kt_c9, kt_cm1, kt_c81, kt_c40, kt_c7, kt_c5, kt_c6, kt_c512, kt_c10, kt_c10000]; omega)) | obtain ⟨k_53, hk_53, hm_53, hM_53⟩ := kt_addk et_53
        have hi_3 : vp_in t_53 172241 := by exact kt_in (by omega) (by omega)
        refine va_bald hx hb hK hP 1 2 rfl rfl hi_3 dX11_lookAgain_54 ?_
        refine lv_topi (fun a_54 ea_54 => ?_)
        refine lv_iconst (v := (-1)) hx hb dX11_lookAgain_55 (by decide) ?_
        refine lv_icmp_eq (tgt := 82) hx hb dX11_lookAgain_56 (by decide) (fun c_56 => ?_) (fun c_56 => ?_)
        · have d_56 := c_56
          simp only [kt_lt, kt_le, kt_eq, kt_c0, kt_c1, kt_c2, kt_c3, kt_c4, kt_c8, kt_c9, kt_cm1, kt_c81, kt_c40, kt_c7, kt_c5, kt_c6, kt_c512, kt_c10, kt_c10000] at d_56
          refine lv_iconst (v := 0) hx hb dX11_lookAgain_82 (by decide) ?_
          exact j_83 (0 : Int32) (by trivial) H _ hP hD hS ls (lv_sub hl [0, 1] rfl)
        · have d_56 := c_56
          simp only [kt_lt, kt_le, kt_eq, kt_c0, kt_c1, kt_c2, kt_c3, kt_c4, kt_c8, kt_c9, kt_cm1, kt_c81, kt_c40, kt_c7, kt_c5, kt_c6, kt_c512, kt_c10, kt_c10000] at d_56
          refine lv_aload_n hx hb dX11_lookAgain_59 rfl (lv_at hl 1 rfl) ?_
          refine va_get (D := D) (ci := 11) (C := RX11) (T := TX11) (N := 29) hx hb hts iw_X11_lookAgain_X11 hown hK hP 0 rfl rfl 17 (by decide) (hts (.fieldLink RX11 43 "KingTableModel" "stood" "[B") (List.mem_cons_of_mem _ (List.mem_append_left _ (List.mem_cons_of_mem _ (List.mem_cons_of_mem _ (List.mem_cons_of_mem _ (List.mem_cons_of_mem _ (List.Mem.head _)))))))) (fun _ h9 => h9) rfl dX11_lookAgain_60 ?_
          refine lv_aload_n hx hb dX11_lookAgain_63 rfl (lv_at hl 1 rfl) ?_
          refine lv_aload_n hx hb dX11_lookAgain_64 rfl (lv_at hl 1 rfl) ?_
          refine va_get (D := D) (ci := 11) (C := RX11) (T := TX11) (N := 29) hx hb hts iw_X11_lookAgain_X11 hown hK hP 0 rfl rfl 18 (by decide) (hts (.fieldLink RX11 138 "KingTableModel" "done" "I") (List.mem_cons_of_mem _ (List.mem_append_left _ (List.Mem.head _)))) (fun _ h9 => h9) rfl dX11_lookAgain_65 ?_
          refine kt_pi (wc := [(mx, .inr (11, [.int ml, .int mw, .ref ms, .int mgl, .int mhd, .int mre, .int mag, .int mkt, .int mho, .int mpc, .int msd, .int mki, .ref mk, .ref ma, .ref mo, .ref mg, .ref mm, .ref mt, .int mdn, .int mun, .ref mn, .int tm, .ref me, .ref mq, .int msv, .ref mwo, .ref md, .ref mf, .ref mr]))]) [0] hP hD hS hA rfl (by decide) (fun hPc hDc => va_runV (As := [.int mdn]) (rest := [.ref mt, .int (nI k), .ref mn]) ⟨hx, hb, hml, hown, hts⟩ (c_X11_row l D cI cZ cB H.size mx ms mk ma mo mg mm mt mn me mq mwo md mf mr ml mw mgl mhd mre mag mkt mho mpc msd mki mdn mun tm msv mdn (by first | assumption | omega | rfl | decide)) (cwV 1 hts gX11_lookAgain_X11_row rfl rfl rfl (by decide +kernel) ⟨Nat.le_of_ble_eq_true rfl, Nat.le_of_ble_eq_true rfl⟩) (kt_preV hN hK hPc hDc 0 (ci := 11) (q := (RX11, TX11, 29)) rfl rfl) rfl rfl hl.1 rfl (lv_room (Nat.le_of_ble_eq_true rfl)) dX11_lookAgain_68 ⟨Nat.le_of_ble_eq_true rfl, Nat.le_of_ble_eq_true rfl⟩) (fun r_68 _ H locs hw_68 hP hS => ?_)
          refine lv_iload_n hx hb dX11_lookAgain_71 rfl (lv_at hl 0 rfl) ?_
          refine lv_iadd hx hb dX11_lookAgain_72 ?_
          refine lv_topi (fun t_72 et_72 => ?_)
          first | have hk_72 := kt_addx et_72 (by first | omega | (simp only [kt_c0, kt_c1, kt_c2, kt_c3, kt_c4, kt_c8, kt_c9, kt_cm1, kt_c81, kt_c40, kt_c7, kt_c5, kt_c6, kt_c512, kt_c10, kt_c10000]; omega)) (by first | omega | (simp only [kt_c0, kt_c1, kt_c2, kt_c3, kt_c4, kt_c8, kt_c9, kt_cm1, kt_c81, kt_c40, kt_c7, kt_c5, kt_c6, kt_c512, kt_c10, kt_c10000]; omega)) | obtain ⟨k_72, hk_72, hm_72, hM_72⟩ := kt_addk et_72
          have hi_4 : vp_in t_72 172241 := by exact kt_in (by omega) (by omega)
          refine va_bald hx hb hK hP 1 2 rfl rfl hi_4 dX11_lookAgain_73 ?_
          refine lv_topi (fun a_73 ea_73 => ?_)
          refine lv_iconst (v := (-1)) hx hb dX11_lookAgain_74 (by decide) ?_
          refine lv_icmp_ne (tgt := 82) hx hb dX11_lookAgain_75 (by decide) (fun c_75 => ?_) (fun c_75 => ?_)
          · have d_75 := c_75
            simp only [kt_lt, kt_le, kt_eq, kt_c0, kt_c1, kt_c2, kt_c3, kt_c4, kt_c8, kt_c9, kt_cm1, kt_c81, kt_c40, kt_c7, kt_c5, kt_c6, kt_c512, kt_c10, kt_c10000] at d_75
            refine lv_iconst (v := 0) hx hb dX11_lookAgain_82 (by decide) ?_
            exact j_83 (0 : Int32) (by trivial) H _ hP hD hS ls (lv_sub hl [0, 1] rfl)
          · have d_75 := c_75
            simp only [kt_lt, kt_le, kt_eq, kt_c0, kt_c1, kt_c2, kt_c3, kt_c4, kt_c8, kt_c9, kt_cm1, kt_c81, kt_c40, kt_c7, kt_c5, kt_c6, kt_c512, kt_c10, kt_c10000] at d_75
            refine lv_iconst (v := 1) hx hb dX11_lookAgain_78 (by decide) ?_
            refine lv_goto (tgt := 83) hx hb dX11_lookAgain_79 (by decide) ?_
            exact j_83 (1 : Int32) (by trivial) H _ hP hD hS ls (lv_sub hl [0, 1] rfl)
  refine lv_if_ne (tgt := 12) hx hb dX11_lookAgain_5 (by decide) (fun c_5 => ?_) (fun c_5 => ?_)
  · have d_5 := c_5
    simp only [kt_lt, kt_le, kt_eq, kt_c0, kt_c1, kt_c2, kt_c3, kt_c4, kt_c8, kt_c9, kt_cm1, kt_c81, kt_c40, kt_c7, kt_c5, kt_c6, kt_c512, kt_c10, kt_c10000] at d_5
    refine lv_iconst (v := 0) hx hb dX11_lookAgain_12 (by decide) ?_
    exact j_13 (0 : Int32) (by trivial) H _ hP hD hS ls (lv_sub hl [0] rfl)
  · have d_5 := c_5
    simp only [kt_lt, kt_le, kt_eq, kt_c0, kt_c1, kt_c2, kt_c3, kt_c4, kt_c8, kt_c9, kt_cm1, kt_c81, kt_c40, kt_c7, kt_c5, kt_c6, kt_c512, kt_c10, kt_c10000] at d_5
    refine lv_iconst (v := (-1)) hx hb dX11_lookAgain_8 (by decide) ?_
    refine lv_goto (tgt := 13) hx hb dX11_lookAgain_9 (by decide) ?_
    exact j_13 (-1 : Int32) (by trivial) H _ hP hD hS ls (lv_sub hl [0] rfl)

theorem iw_X11_write_X11 : ∀ w ∈ wsX110, w ∈ wsX11_write := fun _ h => kt_wp_X11_write__X110 h