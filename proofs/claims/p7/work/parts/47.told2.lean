theorem iw_X11_board_X11 : ∀ w ∈ wsX110, w ∈ wsX11_board := fun _ h => kt_wp_X11_board__X110 h
set_option maxHeartbeats 4000000 in
set_option maxRecDepth 100000 in
theorem c_X11_board (l : Launch) (D : va_G) (cI cZ cB : ClassId) (sz : Nat) (mx : Nat) (ms : Nat) (mk : Nat) (ma : Nat) (mo : Nat) (mg : Nat) (mm : Nat) (mt : Nat) (mn : Nat) (me : Nat) (mq : Nat) (mwo : Nat) (md : Nat) (mf : Nat) (mr : Nat) (ml : Int32) (mw : Int32) (mgl : Int32) (mhd : Int32) (mre : Int32) (mag : Int32) (mkt : Int32) (mho : Int32) (mpc : Int32) (msd : Int32) (mki : Int32) (mdn : Int32) (mun : Int32) (mtk : Int32) (msv : Int32) (fs : Nat → Int32) (p1 : Int32) (p2 : Int32) : kt_Mi l yX11_board wsX11_board { frames := 1, cells := 0, slots := 0, locals := 22 } D (kt_ty cI cZ cB) [.ref mx, .int p1, .int p2] sz [(mx, .inr (11, [.int ml, .int mw, .ref ms, .int mgl, .int mhd, .int mre, .int mag, .int mkt, .int mho, .int mpc, .int msd, .int mki, .ref mk, .ref ma, .ref mo, .ref mg, .ref mm, .ref mt, .int mdn, .int mun, .ref mn, .int mtk, .ref me, .ref mq, .int msv, .ref mwo, .ref md, .ref mf, .ref mr])), (ms, .inl (cI, 81, .inl fs))] (fun (r : Int32) (u : Int32 × Int32 × Int32 × Int32 × (Nat → Int32)) => (r = 1 ∧ (2 ≤ p1.toInt ∧ p1.toInt ≤ 9 ∧ 2 ≤ p2.toInt ∧ p2.toInt ≤ 9) ∧ u.1 = p1 ∧ u.2.1 = p2 ∧ u.2.2.1 = 0 ∧ u.2.2.2.1 = 0 ∧ ∀ j, j < 81 → u.2.2.2.2 j = 0) ∨ (r = 0 ∧ ¬ (2 ≤ p1.toInt ∧ p1.toInt ≤ 9 ∧ 2 ≤ p2.toInt ∧ p2.toInt ≤ 9) ∧ u.1 = ml ∧ u.2.1 = mw ∧ u.2.2.1 = mho ∧ u.2.2.2.1 = msv ∧ u.2.2.2.2 = fs)) (fun (u : Int32 × Int32 × Int32 × Int32 × (Nat → Int32)) => [(mx, .inr (11, [.int u.1, .int u.2.1, .ref ms, .int mgl, .int mhd, .int mre, .int mag, .int mkt, .int u.2.2.1, .int mpc, .int msd, .int mki, .ref mk, .ref ma, .ref mo, .ref mg, .ref mm, .ref mt, .int mdn, .int mun, .ref mn, .int mtk, .ref me, .ref mq, .int u.2.2.2.1, .ref mwo, .ref md, .ref mf, .ref mr])), (ms, .inl (cI, 81, .inl u.2.2.2.2))]) 0 0 := by
  refine kt_Mi.of (cc := cX11_board) (maxL := 4) (ret := some .boolean) (by decide) rfl (Nat.le_of_ble_eq_true rfl) ?_
  intro p e s m below meth c A ls H hAt hP hD hS hl
  obtain ⟨hx, hb, hr, hml, hown, hts, hN, hK, hlk, hnm, hA⟩ := hAt
  have hl : lv_has ls 4 [(0, .ref mx), (1, .int p1), (2, .int p2)] := hl
  have hown : s.vm.findClass RX11 = some m.cls := hown
  refine lv_iload_n hx hb dX11_board_0 rfl (lv_at hl 1 rfl) ?_
  refine lv_iconst (v := 2) hx hb dX11_board_1 (by decide) ?_
  refine lv_bipush (v := 9) hx hb dX11_board_2 (by decide) ?_
  refine kt_pi (wc := []) [] hP hD hS hA rfl (by decide) (fun hPc hDc => va_runS (As := [.int p1, .int 2, .int 9]) (rest := []) ⟨hx, hb, hml, hown, hts⟩ (c_X11_isIn l D cI cZ cB H.size p1 2 9 ) (va_cwS 3 hts gX11_board_X11_isIn rfl rfl rfl (by decide +kernel) ⟨Nat.le_of_ble_eq_true rfl, Nat.le_of_ble_eq_true rfl⟩) (kt_preS hN hK hPc hDc) rfl rfl hl.1 rfl (lv_room (Nat.le_of_ble_eq_true rfl)) dX11_board_4 ⟨Nat.le_of_ble_eq_true rfl, Nat.le_of_ble_eq_true rfl⟩) (fun r_4 _ H locs hw_4 hP hS => ?_)
  simp only [kt_c2, kt_c9] at hw_4
  refine lv_if_eq (tgt := 20) hx hb dX11_board_7 (by decide) (fun c_7 => ?_) (fun c_7 => ?_)
  · have d_7 := c_7
    simp only [kt_lt, kt_le, kt_eq, kt_c0, kt_c1, kt_c2, kt_c3, kt_c4, kt_c8, kt_c9, kt_cm1, kt_c81, kt_c40, kt_c7, kt_c5, kt_c6, kt_c512, kt_c10, kt_c10000] at d_7
    refine lv_iconst (v := 0) hx hb dX11_board_20 (by decide) ?_
    exact kt_rz (ml, mw, mho, msv, fs) hx hb hr hlk hS dX11_board_21 hP hD (by show ((0 : Int32) = 1 ∧ (2 ≤ p1.toInt ∧ p1.toInt ≤ 9 ∧ 2 ≤ p2.toInt ∧ p2.toInt ≤ 9) ∧ ml = p1 ∧ mw = p2 ∧ mho = 0 ∧ msv = 0 ∧ ∀ j, j < 81 → fs j = 0) ∨ ((0 : Int32) = 0 ∧ ¬ (2 ≤ p1.toInt ∧ p1.toInt ≤ 9 ∧ 2 ≤ p2.toInt ∧ p2.toInt ≤ 9) ∧ ml = ml ∧ mw = mw ∧ mho = mho ∧ msv = msv ∧ fs = fs); first | exact Or.inr ⟨rfl, fun h => (hw_4.f c_7) ⟨h.1, h.2.1⟩, rfl, rfl, rfl, rfl, rfl⟩ | exact Or.inr ⟨rfl, fun h => (hw_14.f c_17) ⟨h.2.2.1, h.2.2.2⟩, rfl, rfl, rfl, rfl, rfl⟩ | exact Or.inl ⟨rfl, ⟨hs1.1, hs1.2, hs2.1, hs2.2⟩, rfl, rfl, rfl, rfl, fun j hj => hz j (by omega)⟩) rfl
  · have d_7 := c_7
    simp only [kt_lt, kt_le, kt_eq, kt_c0, kt_c1, kt_c2, kt_c3, kt_c4, kt_c8, kt_c9, kt_cm1, kt_c81, kt_c40, kt_c7, kt_c5, kt_c6, kt_c512, kt_c10, kt_c10000] at d_7
    have hs1 := hw_4.t c_7
    refine lv_iload_n hx hb dX11_board_10 rfl (lv_at hl 2 rfl) ?_
    refine lv_iconst (v := 2) hx hb dX11_board_11 (by decide) ?_
    refine lv_bipush (v := 9) hx hb dX11_board_12 (by decide) ?_
    refine kt_pi (wc := []) [] hP hD hS hA rfl (by decide) (fun hPc hDc => va_runS (As := [.int p2, .int 2, .int 9]) (rest := []) ⟨hx, hb, hml, hown, hts⟩ (c_X11_isIn l D cI cZ cB H.size p2 2 9 ) (va_cwS 3 hts gX11_board_X11_isIn rfl rfl rfl (by decide +kernel) ⟨Nat.le_of_ble_eq_true rfl, Nat.le_of_ble_eq_true rfl⟩) (kt_preS hN hK hPc hDc) rfl rfl hl.1 rfl (lv_room (Nat.le_of_ble_eq_true rfl)) dX11_board_14 ⟨Nat.le_of_ble_eq_true rfl, Nat.le_of_ble_eq_true rfl⟩) (fun r_14 _ H locs hw_14 hP hS => ?_)
    simp only [kt_c2, kt_c9] at hw_14
    refine lv_if_ne (tgt := 22) hx hb dX11_board_17 (by decide) (fun c_17 => ?_) (fun c_17 => ?_)
    · have d_17 := c_17
      simp only [kt_lt, kt_le, kt_eq, kt_c0, kt_c1, kt_c2, kt_c3, kt_c4, kt_c8, kt_c9, kt_cm1, kt_c81, kt_c40, kt_c7, kt_c5, kt_c6, kt_c512, kt_c10, kt_c10000] at d_17
      have hs2 := hw_14.t c_17
      refine lv_aload_n hx hb dX11_board_22 rfl (lv_at hl 0 rfl) ?_
      refine lv_iload_n hx hb dX11_board_23 rfl (lv_at hl 1 rfl) ?_
      refine va_put (D := D) (ci := 11) (v := .int p1) (ty := .int) (C := RX11) (T := TX11) (N := 29) hx hb hts iw_X11_board_X11 tyX11 tyX11_ok nmX11 hown hK hP hD hS 0 rfl rfl 0 (by decide) (hts (.fieldLink RX11 7 "KingTableModel" "lines" "I") (List.mem_cons_of_mem _ (List.mem_append_left _ (List.Mem.head _)))) (fun _ h9 => h9) rfl (by decide +kernel) rfl rfl (Nat.le_of_ble_eq_true rfl) dX11_board_24 (fun H locs hP hD hS => ?_)
      have hP : va_P D vwCl [(mx, .inr (11, [.int p1, .int mw, .ref ms, .int mgl, .int mhd, .int mre, .int mag, .int mkt, .int mho, .int mpc, .int msd, .int mki, .ref mk, .ref ma, .ref mo, .ref mg, .ref mm, .ref mt, .int mdn, .int mun, .ref mn, .int mtk, .ref me, .ref mq, .int msv, .ref mwo, .ref md, .ref mf, .ref mr])), (ms, .inl (cI, 81, .inl fs))] H := hP
      have hD : va_D A [(mx, .inr (11, [.int p1, .int mw, .ref ms, .int mgl, .int mhd, .int mre, .int mag, .int mkt, .int mho, .int mpc, .int msd, .int mki, .ref mk, .ref ma, .ref mo, .ref mg, .ref mm, .ref mt, .int mdn, .int mun, .ref mn, .int mtk, .ref me, .ref mq, .int msv, .ref mwo, .ref md, .ref mf, .ref mr])), (ms, .inl (cI, 81, .inl fs))] := hD
      refine lv_aload_n hx hb dX11_board_27 rfl (lv_at hl 0 rfl) ?_
      refine lv_iload_n hx hb dX11_board_28 rfl (lv_at hl 2 rfl) ?_
      refine va_put (D := D) (ci := 11) (v := .int p2) (ty := .int) (C := RX11) (T := TX11) (N := 29) hx hb hts iw_X11_board_X11 tyX11 tyX11_ok nmX11 hown hK hP hD hS 0 rfl rfl 1 (by decide) (hts (.fieldLink RX11 13 "KingTableModel" "wide" "I") (List.mem_cons_of_mem _ (List.mem_append_left _ (List.mem_cons_of_mem _ (List.Mem.head _))))) (fun _ h9 => h9) rfl (by decide +kernel) rfl rfl (Nat.le_of_ble_eq_true rfl) dX11_board_29 (fun H locs hP hD hS => ?_)
      have hP : va_P D vwCl [(mx, .inr (11, [.int p1, .int p2, .ref ms, .int mgl, .int mhd, .int mre, .int mag, .int mkt, .int mho, .int mpc, .int msd, .int mki, .ref mk, .ref ma, .ref mo, .ref mg, .ref mm, .ref mt, .int mdn, .int mun, .ref mn, .int mtk, .ref me, .ref mq, .int msv, .ref mwo, .ref md, .ref mf, .ref mr])), (ms, .inl (cI, 81, .inl fs))] H := hP
      have hD : va_D A [(mx, .inr (11, [.int p1, .int p2, .ref ms, .int mgl, .int mhd, .int mre, .int mag, .int mkt, .int mho, .int mpc, .int msd, .int mki, .ref mk, .ref ma, .ref mo, .ref mg, .ref mm, .ref mt, .int mdn, .int mun, .ref mn, .int mtk, .ref me, .ref mq, .int msv, .ref mwo, .ref md, .ref mf, .ref mr])), (ms, .inl (cI, 81, .inl fs))] := hD
      refine lv_iconst (v := 0) hx hb dX11_board_32 (by decide) ?_
      refine lv_istore_n (lv' := [(3, .int 0), (0, .ref mx), (1, .int p1), (2, .int p2)]) hx hb dX11_board_33 rfl hl (by decide) rfl (fun ls hl => ?_)
      refine kt_loop (σ := Nat × (Nat → Int32)) 34 4 (fun u => [(mx, .inr (11, [.int p1, .int p2, .ref ms, .int mgl, .int mhd, .int mre, .int mag, .int mkt, .int mho, .int mpc, .int msd, .int mki, .ref mk, .ref ma, .ref mo, .ref mg, .ref mm, .ref mt, .int mdn, .int mun, .ref mn, .int mtk, .ref me, .ref mq, .int msv, .ref mwo, .ref md, .ref mf, .ref mr])), (ms, .inl (cI, 81, .inl u.2))]) (fun u => [(3, .int (nI u.1)), (0, .ref mx), (1, .int p1), (2, .int p2)]) (fun n u => (u.1 ≤ 81 ∧ 81 < u.1 + n) ∧ ∀ j, j < u.1 → u.2 j = 0) (fun u h => by omega) (fun n_34 ih_34 u hI H locs hP hD hS ls hl => ?_) (82) (0, fs) (by show (0 ≤ 81 ∧ 81 < 0 + 82) ∧ ∀ j, j < 0 → fs j = 0; exact ⟨by decide, fun j h => absurd h (Nat.not_lt_zero j)⟩) hP hD hS (lv_sub hl [0, 1, 2, 3] rfl)
      obtain ⟨k, z⟩ := u
      have hP : va_P D vwCl [(mx, .inr (11, [.int p1, .int p2, .ref ms, .int mgl, .int mhd, .int mre, .int mag, .int mkt, .int mho, .int mpc, .int msd, .int mki, .ref mk, .ref ma, .ref mo, .ref mg, .ref mm, .ref mt, .int mdn, .int mun, .ref mn, .int mtk, .ref me, .ref mq, .int msv, .ref mwo, .ref md, .ref mf, .ref mr])), (ms, .inl (cI, 81, .inl z))] H := hP
      have hD : va_D A [(mx, .inr (11, [.int p1, .int p2, .ref ms, .int mgl, .int mhd, .int mre, .int mag, .int mkt, .int mho, .int mpc, .int msd, .int mki, .ref mk, .ref ma, .ref mo, .ref mg, .ref mm, .ref mt, .int mdn, .int mun, .ref mn, .int mtk, .ref me, .ref mq, .int msv, .ref mwo, .ref md, .ref mf, .ref mr])), (ms, .inl (cI, 81, .inl z))] := hD
      have hl : lv_has ls 4 [(3, .int (nI k)), (0, .ref mx), (1, .int p1), (2, .int p2)] := hl
      have hI : (k ≤ 81 ∧ 81 < k + (n_34 + 1)) ∧ ∀ j, j < k → z j = 0 := hI
      obtain ⟨hkb, hz⟩ := hI
      have hk0 := kt_nI (n := k) (by omega)
      refine lv_iload_n hx hb dX11_board_34 rfl (lv_at hl 0 rfl) ?_
      refine lv_bipush (v := 81) hx hb dX11_board_35 (by decide) ?_
      refine lv_icmp_ge (tgt := 53) hx hb dX11_board_37 (by decide) (fun c_37 => ?_) (fun c_37 => ?_)
      · have d_37 := c_37
        simp only [kt_lt, kt_le, kt_eq, kt_c0, kt_c1, kt_c2, kt_c3, kt_c4, kt_c8, kt_c9, kt_cm1, kt_c81, kt_c40, kt_c7, kt_c5, kt_c6, kt_c512, kt_c10, kt_c10000] at d_37
        refine lv_aload_n hx hb dX11_board_53 rfl (lv_at hl 1 rfl) ?_
        refine lv_iconst (v := 0) hx hb dX11_board_54 (by decide) ?_
        refine va_put (D := D) (ci := 11) (v := .int 0) (ty := .int) (C := RX11) (T := TX11) (N := 29) hx hb hts iw_X11_board_X11 tyX11 tyX11_ok nmX11 hown hK hP hD hS 0 rfl rfl 8 (by decide) (hts (.fieldLink RX11 73 "KingTableModel" "how" "I") (List.mem_cons_of_mem _ (List.mem_append_left _ (List.mem_cons_of_mem _ (List.mem_cons_of_mem _ (List.mem_cons_of_mem _ (List.Mem.head _))))))) (fun _ h9 => h9) rfl (by decide +kernel) rfl rfl (Nat.le_of_ble_eq_true rfl) dX11_board_55 (fun H locs hP hD hS => ?_)
        have hP : va_P D vwCl [(mx, .inr (11, [.int p1, .int p2, .ref ms, .int mgl, .int mhd, .int mre, .int mag, .int mkt, .int 0, .int mpc, .int msd, .int mki, .ref mk, .ref ma, .ref mo, .ref mg, .ref mm, .ref mt, .int mdn, .int mun, .ref mn, .int mtk, .ref me, .ref mq, .int msv, .ref mwo, .ref md, .ref mf, .ref mr])), (ms, .inl (cI, 81, .inl z))] H := hP
        have hD : va_D A [(mx, .inr (11, [.int p1, .int p2, .ref ms, .int mgl, .int mhd, .int mre, .int mag, .int mkt, .int 0, .int mpc, .int msd, .int mki, .ref mk, .ref ma, .ref mo, .ref mg, .ref mm, .ref mt, .int mdn, .int mun, .ref mn, .int mtk, .ref me, .ref mq, .int msv, .ref mwo, .ref md, .ref mf, .ref mr])), (ms, .inl (cI, 81, .inl z))] := hD
        refine lv_aload_n hx hb dX11_board_58 rfl (lv_at hl 1 rfl) ?_
        refine lv_iconst (v := 0) hx hb dX11_board_59 (by decide) ?_
        refine va_put (D := D) (ci := 11) (v := .int 0) (ty := .boolean) (C := RX11) (T := TX11) (N := 29) hx hb hts iw_X11_board_X11 tyX11 tyX11_ok nmX11 hown hK hP hD hS 0 rfl rfl 24 (by decide) (hts (.fieldLink RX11 76 "KingTableModel" "solved" "Z") (List.mem_cons_of_mem _ (List.mem_append_left _ (List.mem_cons_of_mem _ (List.mem_cons_of_mem _ (List.mem_cons_of_mem _ (List.mem_cons_of_mem _ (List.Mem.head _)))))))) (fun _ h9 => h9) rfl (by decide +kernel) rfl rfl (Nat.le_of_ble_eq_true rfl) dX11_board_60 (fun H locs hP hD hS => ?_)
        have hP : va_P D vwCl [(mx, .inr (11, [.int p1, .int p2, .ref ms, .int mgl, .int mhd, .int mre, .int mag, .int mkt, .int 0, .int mpc, .int msd, .int mki, .ref mk, .ref ma, .ref mo, .ref mg, .ref mm, .ref mt, .int mdn, .int mun, .ref mn, .int mtk, .ref me, .ref mq, .int 0, .ref mwo, .ref md, .ref mf, .ref mr])), (ms, .inl (cI, 81, .inl z))] H := hP
        have hD : va_D A [(mx, .inr (11, [.int p1, .int p2, .ref ms, .int mgl, .int mhd, .int mre, .int mag, .int mkt, .int 0, .int mpc, .int msd, .int mki, .ref mk, .ref ma, .ref mo, .ref mg, .ref mm, .ref mt, .int mdn, .int mun, .ref mn, .int mtk, .ref me, .ref mq, .int 0, .ref mwo, .ref md, .ref mf, .ref mr])), (ms, .inl (cI, 81, .inl z))] := hD
        refine lv_iconst (v := 1) hx hb dX11_board_63 (by decide) ?_
        exact kt_rz (p1, p2, 0, 0, z) hx hb hr hlk hS dX11_board_64 hP hD (by show ((1 : Int32) = 1 ∧ (2 ≤ p1.toInt ∧ p1.toInt ≤ 9 ∧ 2 ≤ p2.toInt ∧ p2.toInt ≤ 9) ∧ p1 = p1 ∧ p2 = p2 ∧ (0 : Int32) = 0 ∧ (0 : Int32) = 0 ∧ ∀ j, j < 81 → z j = 0) ∨ ((1 : Int32) = 0 ∧ ¬ (2 ≤ p1.toInt ∧ p1.toInt ≤ 9 ∧ 2 ≤ p2.toInt ∧ p2.toInt ≤ 9) ∧ p1 = ml ∧ p2 = mw ∧ (0 : Int32) = mho ∧ (0 : Int32) = msv ∧ z = fs); first | exact Or.inr ⟨rfl, fun h => (hw_4.f c_7) ⟨h.1, h.2.1⟩, rfl, rfl, rfl, rfl, rfl⟩ | exact Or.inr ⟨rfl, fun h => (hw_14.f c_17) ⟨h.2.2.1, h.2.2.2⟩, rfl, rfl, rfl, rfl, rfl⟩ | exact Or.inl ⟨rfl, ⟨hs1.1, hs1.2, hs2.1, hs2.2⟩, rfl, rfl, rfl, rfl, fun j hj => hz j (by omega)⟩) rfl
      · have d_37 := c_37
        simp only [kt_lt, kt_le, kt_eq, kt_c0, kt_c1, kt_c2, kt_c3, kt_c4, kt_c8, kt_c9, kt_cm1, kt_c81, kt_c40, kt_c7, kt_c5, kt_c6, kt_c512, kt_c10, kt_c10000] at d_37
        refine lv_aload_n hx hb dX11_board_40 rfl (lv_at hl 1 rfl) ?_
        refine va_get (D := D) (ci := 11) (C := RX11) (T := TX11) (N := 29) hx hb hts iw_X11_board_X11 hown hK hP 0 rfl rfl 2 (by decide) (hts (.fieldLink RX11 16 "KingTableModel" "signs" "[I") (List.mem_cons_of_mem _ (List.mem_append_left _ (List.mem_cons_of_mem _ (List.mem_cons_of_mem _ (List.Mem.head _)))))) (fun _ h9 => h9) rfl dX11_board_41 ?_
        refine lv_iload_n hx hb dX11_board_44 rfl (lv_at hl 0 rfl) ?_
        refine lv_iconst (v := 0) hx hb dX11_board_45 (by decide) ?_
        have hi_1 : vp_in (nI k) 81 := by exact kt_in (by omega) (by omega)
        refine va_iast hx hb hK hP hD hS 1 0 rfl rfl hi_1 dX11_board_46 (fun H locs hP hD hS => ?_)
        have hP : va_P D vwCl [(mx, .inr (11, [.int p1, .int p2, .ref ms, .int mgl, .int mhd, .int mre, .int mag, .int mkt, .int mho, .int mpc, .int msd, .int mki, .ref mk, .ref ma, .ref mo, .ref mg, .ref mm, .ref mt, .int mdn, .int mun, .ref mn, .int mtk, .ref me, .ref mq, .int msv, .ref mwo, .ref md, .ref mf, .ref mr])), (ms, .inl (cI, 81, .inl (upd z (nI k).toNatClampNeg 0)))] H := hP
        have hD : va_D A [(mx, .inr (11, [.int p1, .int p2, .ref ms, .int mgl, .int mhd, .int mre, .int mag, .int mkt, .int mho, .int mpc, .int msd, .int mki, .ref mk, .ref ma, .ref mo, .ref mg, .ref mm, .ref mt, .int mdn, .int mun, .ref mn, .int mtk, .ref me, .ref mq, .int msv, .ref mwo, .ref md, .ref mf, .ref mr])), (ms, .inl (cI, 81, .inl (upd z (nI k).toNatClampNeg 0)))] := hD
        refine lv_iinc (v := nI (k + 1)) (lv' := [(3, .int (nI (k + 1))), (0, .ref mx), (1, .int p1), (2, .int p2)]) hx hb dX11_board_47 hl (k := 0) rfl (nI_1 _) (by decide) rfl (fun ls hl => ?_)
        refine lv_goto (tgt := 34) hx hb dX11_board_50 (by decide) ?_
        exact ih_34 ((k + 1), (upd z (nI k).toNatClampNeg 0)) (by show ((k + 1) ≤ 81 ∧ 81 < (k + 1) + n_34) ∧ ∀ j, j < (k + 1) → (upd z (nI k).toNatClampNeg 0) j = 0; refine ⟨by omega, fun j hj => ?_⟩; rw [nI_clamp (by omega)]; exact if hjk : j = k then (by rw [hjk, pk_us]) else (by rw [pk_un hjk]; exact hz j (by omega))) H _ hP hD hS ls (lv_sub hl [0, 1, 2, 3] rfl)
    · have d_17 := c_17
      simp only [kt_lt, kt_le, kt_eq, kt_c0, kt_c1, kt_c2, kt_c3, kt_c4, kt_c8, kt_c9, kt_cm1, kt_c81, kt_c40, kt_c7, kt_c5, kt_c6, kt_c512, kt_c10, kt_c10000] at d_17
      refine lv_iconst (v := 0) hx hb dX11_board_20 (by decide) ?_
      exact kt_rz (ml, mw, mho, msv, fs) hx hb hr hlk hS dX11_board_21 hP hD (by show ((0 : Int32) = 1 ∧ (2 ≤ p1.toInt ∧ p1.toInt ≤ 9 ∧ 2 ≤ p2.toInt ∧ p2.toInt ≤ 9) ∧ ml = p1 ∧ mw = p2 ∧ mho = 0 ∧ msv = 0 ∧ ∀ j, j < 81 → fs j = 0) ∨ ((0 : Int32) = 0 ∧ ¬ (2 ≤ p1.toInt ∧ p1.toInt ≤ 9 ∧ 2 ≤ p2.toInt ∧ p2.toInt ≤ 9) ∧ ml = ml ∧ mw = mw ∧ mho = mho ∧ msv = msv ∧ fs = fs); first | exact Or.inr ⟨rfl, fun h => (hw_4.f c_7) ⟨h.1, h.2.1⟩, rfl, rfl, rfl, rfl, rfl⟩ | exact Or.inr ⟨rfl, fun h => (hw_14.f c_17) ⟨h.2.2.1, h.2.2.2⟩, rfl, rfl, rfl, rfl, rfl⟩ | exact Or.inl ⟨rfl, ⟨hs1.1, hs1.2, hs2.1, hs2.2⟩, rfl, rfl, rfl, rfl, fun j hj => hz j (by omega)⟩) rfl

theorem iw_X11_line_X11 : ∀ w ∈ wsX110, w ∈ wsX11_line := fun _ h => kt_wp_X11_line__X110 h
set_option maxHeartbeats 4000000 in
set_option maxRecDepth 100000 in
theorem c_X11_line (l : Launch) (D : va_G) (cI cZ cB : ClassId) (sz : Nat) (mx : Nat) (ms : Nat) (mk : Nat) (ma : Nat) (mo : Nat) (mg : Nat) (mm : Nat) (mt : Nat) (mn : Nat) (me : Nat) (mq : Nat) (mwo : Nat) (md : Nat) (mf : Nat) (mr : Nat) (ml : Int32) (mw : Int32) (mgl : Int32) (mhd : Int32) (mre : Int32) (mag : Int32) (mkt : Int32) (mho : Int32) (mpc : Int32) (msd : Int32) (mki : Int32) (mdn : Int32) (mun : Int32) (mtk : Int32) (msv : Int32) (fs : Nat → Int32) (p1 : Int32) (p2 : Int32) (p3 : Int32) (hml_ : 2 ≤ ml.toInt ∧ ml.toInt ≤ 9) (hmw : 2 ≤ mw.toInt ∧ mw.toInt ≤ 9) (hho : 0 ≤ mho.toInt ∧ mho.toInt ≤ 4) : kt_Mi l yX11_line wsX11_line { frames := 1, cells := 0, slots := 0, locals := 22 } D (kt_ty cI cZ cB) [.ref mx, .int p1, .int p2, .int p3] sz [(mx, .inr (11, [.int ml, .int mw, .ref ms, .int mgl, .int mhd, .int mre, .int mag, .int mkt, .int mho, .int mpc, .int msd, .int mki, .ref mk, .ref ma, .ref mo, .ref mg, .ref mm, .ref mt, .int mdn, .int mun, .ref mn, .int mtk, .ref me, .ref mq, .int msv, .ref mwo, .ref md, .ref mf, .ref mr])), (ms, .inl (cI, 81, .inl fs))] (fun (r : Int32) (u : (Nat → Int32)) => (r = 1 ∧ (mho.toInt = 0 ∧ 0 ≤ p1.toInt ∧ p1.toInt < ml.toInt ∧ 0 ≤ p2.toInt ∧ p2.toInt ≤ mw.toInt) ∧ u = kt_tl fs (p1.toInt * mw.toInt).toNat p2 p3 mw.toInt.toNat) ∨ (r = 0 ∧ ¬ (mho.toInt = 0 ∧ 0 ≤ p1.toInt ∧ p1.toInt < ml.toInt ∧ 0 ≤ p2.toInt ∧ p2.toInt ≤ mw.toInt) ∧ u = fs)) (fun (u : (Nat → Int32)) => [(mx, .inr (11, [.int ml, .int mw, .ref ms, .int mgl, .int mhd, .int mre, .int mag, .int mkt, .int mho, .int mpc, .int msd, .int mki, .ref mk, .ref ma, .ref mo, .ref mg, .ref mm, .ref mt, .int mdn, .int mun, .ref mn, .int mtk, .ref me, .ref mq, .int msv, .ref mwo, .ref md, .ref mf, .ref mr])), (ms, .inl (cI, 81, .inl u))]) 0 0 := by
  refine kt_Mi.of (cc := cX11_line) (maxL := 5) (ret := some .boolean) (by decide) rfl (Nat.le_of_ble_eq_true rfl) ?_
  intro p e s m below meth c A ls H hAt hP hD hS hl
  obtain ⟨hx, hb, hr, hml, hown, hts, hN, hK, hlk, hnm, hA⟩ := hAt
  have hl : lv_has ls 5 [(0, .ref mx), (1, .int p1), (2, .int p2), (3, .int p3)] := hl
  have hown : s.vm.findClass RX11 = some m.cls := hown
  refine lv_aload_n hx hb dX11_line_0 rfl (lv_at hl 0 rfl) ?_
  refine va_get (D := D) (ci := 11) (C := RX11) (T := TX11) (N := 29) hx hb hts iw_X11_line_X11 hown hK hP 0 rfl rfl 8 (by decide) (hts (.fieldLink RX11 73 "KingTableModel" "how" "I") (List.mem_cons_of_mem _ (List.mem_append_left _ (List.Mem.head _)))) (fun _ h9 => h9) rfl dX11_line_1 ?_
  refine lv_if_gt (tgt := 33) hx hb dX11_line_4 (by decide) (fun c_4 => ?_) (fun c_4 => ?_)
  · have d_4 := c_4
    simp only [kt_lt, kt_le, kt_eq, kt_c0, kt_c1, kt_c2, kt_c3, kt_c4, kt_c8, kt_c9, kt_cm1, kt_c81, kt_c40, kt_c7, kt_c5, kt_c6, kt_c512, kt_c10, kt_c10000] at d_4
    refine lv_iconst (v := 0) hx hb dX11_line_33 (by decide) ?_
    exact kt_rz fs hx hb hr hlk hS dX11_line_34 hP hD (by show ((0 : Int32) = 1 ∧ (mho.toInt = 0 ∧ 0 ≤ p1.toInt ∧ p1.toInt < ml.toInt ∧ 0 ≤ p2.toInt ∧ p2.toInt ≤ mw.toInt) ∧ fs = kt_tl fs (p1.toInt * mw.toInt).toNat p2 p3 mw.toInt.toNat) ∨ ((0 : Int32) = 0 ∧ ¬ (mho.toInt = 0 ∧ 0 ≤ p1.toInt ∧ p1.toInt < ml.toInt ∧ 0 ≤ p2.toInt ∧ p2.toInt ≤ mw.toInt) ∧ fs = fs); first | exact Or.inr ⟨rfl, fun h => by omega, rfl⟩ | exact Or.inr ⟨rfl, fun h => (hw_15.f c_18) (by omega), rfl⟩ | exact Or.inr ⟨rfl, fun h => (hw_27.f c_30) (by omega), rfl⟩ | exact Or.inl ⟨rfl, by omega, by rw [hg, show mw.toInt.toNat = k by omega]⟩) rfl
  · have d_4 := c_4
    simp only [kt_lt, kt_le, kt_eq, kt_c0, kt_c1, kt_c2, kt_c3, kt_c4, kt_c8, kt_c9, kt_cm1, kt_c81, kt_c40, kt_c7, kt_c5, kt_c6, kt_c512, kt_c10, kt_c10000] at d_4
    refine lv_iload_n hx hb dX11_line_7 rfl (lv_at hl 1 rfl) ?_
    refine lv_iconst (v := 0) hx hb dX11_line_8 (by decide) ?_
    refine lv_aload_n hx hb dX11_line_9 rfl (lv_at hl 0 rfl) ?_
    refine va_get (D := D) (ci := 11) (C := RX11) (T := TX11) (N := 29) hx hb hts iw_X11_line_X11 hown hK hP 0 rfl rfl 0 (by decide) (hts (.fieldLink RX11 7 "KingTableModel" "lines" "I") (List.mem_cons_of_mem _ (List.mem_append_left _ (List.mem_cons_of_mem _ (List.Mem.head _))))) (fun _ h9 => h9) rfl dX11_line_10 ?_
    refine lv_iconst (v := 1) hx hb dX11_line_13 (by decide) ?_
    refine lv_isub hx hb dX11_line_14 ?_
    refine lv_topi (fun t_14 et_14 => ?_)
    first | have hk_14 := kt_subx et_14 (by first | omega | (simp only [kt_c0, kt_c1, kt_c2, kt_c3, kt_c4, kt_c8, kt_c9, kt_cm1, kt_c81, kt_c40, kt_c7, kt_c5, kt_c6, kt_c512, kt_c10, kt_c10000]; omega)) (by first | omega | (simp only [kt_c0, kt_c1, kt_c2, kt_c3, kt_c4, kt_c8, kt_c9, kt_cm1, kt_c81, kt_c40, kt_c7, kt_c5, kt_c6, kt_c512, kt_c10, kt_c10000]; omega)) | obtain ⟨k_14, hk_14, hm_14, hM_14⟩ := kt_subk et_14
    try simp only [kt_c0, kt_c1, kt_c2, kt_c3, kt_c4, kt_c8, kt_c9, kt_cm1, kt_c81, kt_c40, kt_c7, kt_c5, kt_c6, kt_c512, kt_c10, kt_c10000] at hk_14
    refine kt_pi (wc := []) [] hP hD hS hA rfl (by decide) (fun hPc hDc => va_runS (As := [.int p1, .int 0, .int t_14]) (rest := []) ⟨hx, hb, hml, hown, hts⟩ (c_X11_isIn l D cI cZ cB H.size p1 0 t_14 ) (va_cwS 3 hts gX11_line_X11_isIn rfl rfl rfl (by decide +kernel) ⟨Nat.le_of_ble_eq_true rfl, Nat.le_of_ble_eq_true rfl⟩) (kt_preS hN hK hPc hDc) rfl rfl hl.1 rfl (lv_room (Nat.le_of_ble_eq_true rfl)) dX11_line_15 ⟨Nat.le_of_ble_eq_true rfl, Nat.le_of_ble_eq_true rfl⟩) (fun r_15 _ H locs hw_15 hP hS => ?_)
    simp only [kt_c0] at hw_15
    refine lv_if_eq (tgt := 33) hx hb dX11_line_18 (by decide) (fun c_18 => ?_) (fun c_18 => ?_)
    · have d_18 := c_18
      simp only [kt_lt, kt_le, kt_eq, kt_c0, kt_c1, kt_c2, kt_c3, kt_c4, kt_c8, kt_c9, kt_cm1, kt_c81, kt_c40, kt_c7, kt_c5, kt_c6, kt_c512, kt_c10, kt_c10000] at d_18
      refine lv_iconst (v := 0) hx hb dX11_line_33 (by decide) ?_
      exact kt_rz fs hx hb hr hlk hS dX11_line_34 hP hD (by show ((0 : Int32) = 1 ∧ (mho.toInt = 0 ∧ 0 ≤ p1.toInt ∧ p1.toInt < ml.toInt ∧ 0 ≤ p2.toInt ∧ p2.toInt ≤ mw.toInt) ∧ fs = kt_tl fs (p1.toInt * mw.toInt).toNat p2 p3 mw.toInt.toNat) ∨ ((0 : Int32) = 0 ∧ ¬ (mho.toInt = 0 ∧ 0 ≤ p1.toInt ∧ p1.toInt < ml.toInt ∧ 0 ≤ p2.toInt ∧ p2.toInt ≤ mw.toInt) ∧ fs = fs); first | exact Or.inr ⟨rfl, fun h => by omega, rfl⟩ | exact Or.inr ⟨rfl, fun h => (hw_15.f c_18) (by omega), rfl⟩ | exact Or.inr ⟨rfl, fun h => (hw_27.f c_30) (by omega), rfl⟩ | exact Or.inl ⟨rfl, by omega, by rw [hg, show mw.toInt.toNat = k by omega]⟩) rfl
    · have d_18 := c_18
      simp only [kt_lt, kt_le, kt_eq, kt_c0, kt_c1, kt_c2, kt_c3, kt_c4, kt_c8, kt_c9, kt_cm1, kt_c81, kt_c40, kt_c7, kt_c5, kt_c6, kt_c512, kt_c10, kt_c10000] at d_18
      have hs1 := hw_15.t c_18
      refine lv_iload_n hx hb dX11_line_21 rfl (lv_at hl 2 rfl) ?_
      refine lv_iconst (v := 0) hx hb dX11_line_22 (by decide) ?_
      refine lv_aload_n hx hb dX11_line_23 rfl (lv_at hl 0 rfl) ?_
      refine va_get (D := D) (ci := 11) (C := RX11) (T := TX11) (N := 29) hx hb hts iw_X11_line_X11 hown hK hP 0 rfl rfl 1 (by decide) (hts (.fieldLink RX11 13 "KingTableModel" "wide" "I") (List.mem_cons_of_mem _ (List.mem_append_left _ (List.mem_cons_of_mem _ (List.mem_cons_of_mem _ (List.Mem.head _)))))) (fun _ h9 => h9) rfl dX11_line_24 ?_
      refine kt_pi (wc := []) [] hP hD hS hA rfl (by decide) (fun hPc hDc => va_runS (As := [.int p2, .int 0, .int mw]) (rest := []) ⟨hx, hb, hml, hown, hts⟩ (c_X11_isIn l D cI cZ cB H.size p2 0 mw ) (va_cwS 3 hts gX11_line_X11_isIn rfl rfl rfl (by decide +kernel) ⟨Nat.le_of_ble_eq_true rfl, Nat.le_of_ble_eq_true rfl⟩) (kt_preS hN hK hPc hDc) rfl rfl hl.1 rfl (lv_room (Nat.le_of_ble_eq_true rfl)) dX11_line_27 ⟨Nat.le_of_ble_eq_true rfl, Nat.le_of_ble_eq_true rfl⟩) (fun r_27 _ H locs hw_27 hP hS => ?_)
      simp only [kt_c0] at hw_27
      refine lv_if_ne (tgt := 35) hx hb dX11_line_30 (by decide) (fun c_30 => ?_) (fun c_30 => ?_)
      · have d_30 := c_30
        simp only [kt_lt, kt_le, kt_eq, kt_c0, kt_c1, kt_c2, kt_c3, kt_c4, kt_c8, kt_c9, kt_cm1, kt_c81, kt_c40, kt_c7, kt_c5, kt_c6, kt_c512, kt_c10, kt_c10000] at d_30
        have hs2 := hw_27.t c_30
        refine lv_iconst (v := 0) hx hb dX11_line_35 (by decide) ?_
        refine lv_istore (lv' := [(4, .int 0), (0, .ref mx), (1, .int p1), (2, .int p2), (3, .int p3)]) hx hb dX11_line_36 hl (by decide) rfl (fun ls hl => ?_)
        refine kt_loop (σ := Nat × (Nat → Int32)) 38 5 (fun u => [(mx, .inr (11, [.int ml, .int mw, .ref ms, .int mgl, .int mhd, .int mre, .int mag, .int mkt, .int mho, .int mpc, .int msd, .int mki, .ref mk, .ref ma, .ref mo, .ref mg, .ref mm, .ref mt, .int mdn, .int mun, .ref mn, .int mtk, .ref me, .ref mq, .int msv, .ref mwo, .ref md, .ref mf, .ref mr])), (ms, .inl (cI, 81, .inl u.2))]) (fun u => [(4, .int (nI u.1)), (0, .ref mx), (1, .int p1), (2, .int p2), (3, .int p3)]) (fun n u => (u.1 ≤ 9 ∧ 9 < u.1 + n ∧ (u.1 : Int) ≤ mw.toInt) ∧ u.2 = kt_tl fs (p1.toInt * mw.toInt).toNat p2 p3 u.1) (fun u h => by omega) (fun n_38 ih_38 u hI H locs hP hD hS ls hl => ?_) (10) (0, fs) (by show (0 ≤ 9 ∧ 9 < 0 + 10 ∧ (0 : Int) ≤ mw.toInt) ∧ fs = kt_tl fs (p1.toInt * mw.toInt).toNat p2 p3 0; exact ⟨⟨by decide, by decide, by omega⟩, rfl⟩) hP hD hS (lv_sub hl [0, 1, 2, 3, 4] rfl)
        obtain ⟨k, g⟩ := u
        have hP : va_P D vwCl [(mx, .inr (11, [.int ml, .int mw, .ref ms, .int mgl, .int mhd, .int mre, .int mag, .int mkt, .int mho, .int mpc, .int msd, .int mki, .ref mk, .ref ma, .ref mo, .ref mg, .ref mm, .ref mt, .int mdn, .int mun, .ref mn, .int mtk, .ref me, .ref mq, .int msv, .ref mwo, .ref md, .ref mf, .ref mr])), (ms, .inl (cI, 81, .inl g))] H := hP
        have hD : va_D A [(mx, .inr (11, [.int ml, .int mw, .ref ms, .int mgl, .int mhd, .int mre, .int mag, .int mkt, .int mho, .int mpc, .int msd, .int mki, .ref mk, .ref ma, .ref mo, .ref mg, .ref mm, .ref mt, .int mdn, .int mun, .ref mn, .int mtk, .ref me, .ref mq, .int msv, .ref mwo, .ref md, .ref mf, .ref mr])), (ms, .inl (cI, 81, .inl g))] := hD
        have hl : lv_has ls 5 [(4, .int (nI k)), (0, .ref mx), (1, .int p1), (2, .int p2), (3, .int p3)] := hl
        have hI : (k ≤ 9 ∧ 9 < k + (n_38 + 1) ∧ (k : Int) ≤ mw.toInt) ∧ g = kt_tl fs (p1.toInt * mw.toInt).toNat p2 p3 k := hI
        obtain ⟨hkb, hg⟩ := hI
        have hk0 := kt_nI (n := k) (by omega)
        refine lv_iload hx hb dX11_line_38 (lv_at hl 0 rfl) ?_
        refine lv_aload_n hx hb dX11_line_40 rfl (lv_at hl 1 rfl) ?_
        refine va_get (D := D) (ci := 11) (C := RX11) (T := TX11) (N := 29) hx hb hts iw_X11_line_X11 hown hK hP 0 rfl rfl 1 (by decide) (hts (.fieldLink RX11 13 "KingTableModel" "wide" "I") (List.mem_cons_of_mem _ (List.mem_append_left _ (List.mem_cons_of_mem _ (List.mem_cons_of_mem _ (List.Mem.head _)))))) (fun _ h9 => h9) rfl dX11_line_41 ?_
        refine lv_icmp_ge (tgt := 86) hx hb dX11_line_44 (by decide) (fun c_44 => ?_) (fun c_44 => ?_)
        · have d_44 := c_44
          simp only [kt_lt, kt_le, kt_eq, kt_c0, kt_c1, kt_c2, kt_c3, kt_c4, kt_c8, kt_c9, kt_cm1, kt_c81, kt_c40, kt_c7, kt_c5, kt_c6, kt_c512, kt_c10, kt_c10000] at d_44
          refine lv_iconst (v := 1) hx hb dX11_line_86 (by decide) ?_
          exact kt_rz g hx hb hr hlk hS dX11_line_87 hP hD (by show ((1 : Int32) = 1 ∧ (mho.toInt = 0 ∧ 0 ≤ p1.toInt ∧ p1.toInt < ml.toInt ∧ 0 ≤ p2.toInt ∧ p2.toInt ≤ mw.toInt) ∧ g = kt_tl fs (p1.toInt * mw.toInt).toNat p2 p3 mw.toInt.toNat) ∨ ((1 : Int32) = 0 ∧ ¬ (mho.toInt = 0 ∧ 0 ≤ p1.toInt ∧ p1.toInt < ml.toInt ∧ 0 ≤ p2.toInt ∧ p2.toInt ≤ mw.toInt) ∧ g = fs); first | exact Or.inr ⟨rfl, fun h => by omega, rfl⟩ | exact Or.inr ⟨rfl, fun h => (hw_15.f c_18) (by omega), rfl⟩ | exact Or.inr ⟨rfl, fun h => (hw_27.f c_30) (by omega), rfl⟩ | exact Or.inl ⟨rfl, by omega, by rw [hg, show mw.toInt.toNat = k by omega]⟩) rfl
        · have d_44 := c_44
          simp only [kt_lt, kt_le, kt_eq, kt_c0, kt_c1, kt_c2, kt_c3, kt_c4, kt_c8, kt_c9, kt_cm1, kt_c81, kt_c40, kt_c7, kt_c5, kt_c6, kt_c512, kt_c10, kt_c10000] at d_44
          refine lv_aload_n hx hb dX11_line_47 rfl (lv_at hl 1 rfl) ?_
          refine va_get (D := D) (ci := 11) (C := RX11) (T := TX11) (N := 29) hx hb hts iw_X11_line_X11 hown hK hP 0 rfl rfl 2 (by decide) (hts (.fieldLink RX11 16 "KingTableModel" "signs" "[I") (List.mem_cons_of_mem _ (List.mem_append_left _ (List.mem_cons_of_mem _ (List.mem_cons_of_mem _ (List.mem_cons_of_mem _ (List.Mem.head _))))))) (fun _ h9 => h9) rfl dX11_line_48 ?_
          refine lv_aload_n hx hb dX11_line_51 rfl (lv_at hl 1 rfl) ?_
          refine va_get (D := D) (ci := 11) (C := RX11) (T := TX11) (N := 29) hx hb hts iw_X11_line_X11 hown hK hP 0 rfl rfl 1 (by decide) (hts (.fieldLink RX11 13 "KingTableModel" "wide" "I") (List.mem_cons_of_mem _ (List.mem_append_left _ (List.mem_cons_of_mem _ (List.mem_cons_of_mem _ (List.Mem.head _)))))) (fun _ h9 => h9) rfl dX11_line_52 ?_
          refine lv_iload_n hx hb dX11_line_55 rfl (lv_at hl 2 rfl) ?_
          refine lv_imul hx hb dX11_line_56 ?_
          refine lv_topi (fun t_56 et_56 => ?_)
          obtain ⟨k_56, hk_56, hm_56, hM_56⟩ := kt_mulxk et_56
          have hF := kt_fld (r := p1.toInt) (c := (k : Int)) (L := ml.toInt) (w := mw.toInt) (by omega) (by omega) hmw (by omega)
          have hmc : mw.toInt * p1.toInt = p1.toInt * mw.toInt := Int.mul_comm _ _
          have e56 : t_56.toInt = p1.toInt * mw.toInt := by omega
          refine lv_iload hx hb dX11_line_57 (lv_at hl 0 rfl) ?_
          refine lv_iadd hx hb dX11_line_59 ?_
          refine lv_topi (fun t_59 et_59 => ?_)
          first | have hk_59 := kt_addx et_59 (by first | omega | (simp only [kt_c0, kt_c1, kt_c2, kt_c3, kt_c4, kt_c8, kt_c9, kt_cm1, kt_c81, kt_c40, kt_c7, kt_c5, kt_c6, kt_c512, kt_c10, kt_c10000]; omega)) (by first | omega | (simp only [kt_c0, kt_c1, kt_c2, kt_c3, kt_c4, kt_c8, kt_c9, kt_cm1, kt_c81, kt_c40, kt_c7, kt_c5, kt_c6, kt_c512, kt_c10, kt_c10000]; omega)) | obtain ⟨k_59, hk_59, hm_59, hM_59⟩ := kt_addk et_59
          refine lv_iload hx hb dX11_line_60 (lv_at hl 0 rfl) ?_
          refine lv_iload_n hx hb dX11_line_62 rfl (lv_at hl 3 rfl) ?_
          refine lv_icmp_ge (tgt := 78) hx hb dX11_line_63 (by decide) (fun c_63 => ?_) (fun c_63 => ?_)
          · have d_63 := c_63
            simp only [kt_lt, kt_le, kt_eq, kt_c0, kt_c1, kt_c2, kt_c3, kt_c4, kt_c8, kt_c9, kt_cm1, kt_c81, kt_c40, kt_c7, kt_c5, kt_c6, kt_c512, kt_c10, kt_c10000] at d_63
            refine lv_iconst (v := 0) hx hb dX11_line_78 (by decide) ?_
            have hi_1 : vp_in t_59 81 := by exact kt_in (by omega) (by omega)
            refine va_iast hx hb hK hP hD hS 1 0 rfl rfl hi_1 dX11_line_79 (fun H locs hP hD hS => ?_)
            have hP : va_P D vwCl [(mx, .inr (11, [.int ml, .int mw, .ref ms, .int mgl, .int mhd, .int mre, .int mag, .int mkt, .int mho, .int mpc, .int msd, .int mki, .ref mk, .ref ma, .ref mo, .ref mg, .ref mm, .ref mt, .int mdn, .int mun, .ref mn, .int mtk, .ref me, .ref mq, .int msv, .ref mwo, .ref md, .ref mf, .ref mr])), (ms, .inl (cI, 81, .inl (upd g t_59.toNatClampNeg 0)))] H := hP
            have hD : va_D A [(mx, .inr (11, [.int ml, .int mw, .ref ms, .int mgl, .int mhd, .int mre, .int mag, .int mkt, .int mho, .int mpc, .int msd, .int mki, .ref mk, .ref ma, .ref mo, .ref mg, .ref mm, .ref mt, .int mdn, .int mun, .ref mn, .int mtk, .ref me, .ref mq, .int msv, .ref mwo, .ref md, .ref mf, .ref mr])), (ms, .inl (cI, 81, .inl (upd g t_59.toNatClampNeg 0)))] := hD
            refine lv_iinc (v := nI (k + 1)) (lv' := [(4, .int (nI (k + 1))), (0, .ref mx), (1, .int p1), (2, .int p2), (3, .int p3)]) hx hb dX11_line_80 hl (k := 0) rfl (nI_1 _) (by decide) rfl (fun ls hl => ?_)
            refine lv_goto (tgt := 38) hx hb dX11_line_83 (by decide) ?_
            exact ih_38 ((k + 1), (upd g t_59.toNatClampNeg 0)) (by show ((k + 1) ≤ 9 ∧ 9 < (k + 1) + n_38 ∧ ((k + 1) : Int) ≤ mw.toInt) ∧ (upd g t_59.toNatClampNeg 0) = kt_tl fs (p1.toInt * mw.toInt).toNat p2 p3 (k + 1); exact ⟨by omega, by rw [kt_clamp (n := (p1.toInt * mw.toInt).toNat + k) (by omega), hg]; show _ = upd _ _ _; first | rw [if_pos (Int32.not_le.mp c_63), ← et_70, ← et_74] | rw [if_neg (by rw [Int32.not_lt]; exact c_63)]⟩) H _ hP hD hS ls (lv_sub hl [0, 1, 2, 3, 4] rfl)
          · have d_63 := c_63
            simp only [kt_lt, kt_le, kt_eq, kt_c0, kt_c1, kt_c2, kt_c3, kt_c4, kt_c8, kt_c9, kt_cm1, kt_c81, kt_c40, kt_c7, kt_c5, kt_c6, kt_c512, kt_c10, kt_c10000] at d_63
            refine lv_iload_n hx hb dX11_line_66 rfl (lv_at hl 4 rfl) ?_
            refine lv_iconst (v := 3) hx hb dX11_line_67 (by decide) ?_
            refine lv_iload hx hb dX11_line_68 (lv_at hl 0 rfl) ?_
            refine lv_imul hx hb dX11_line_70 ?_
            refine lv_topi (fun t_70 et_70 => ?_)
            obtain ⟨k_70, hk_70, hm_70, hM_70⟩ := kt_mulk (C := 3) (et_70.trans (Int32.mul_comm _ _)) (by decide)
            try simp only [kt_c0, kt_c1, kt_c2, kt_c3, kt_c4, kt_c8, kt_c9, kt_cm1, kt_c81, kt_c40, kt_c7, kt_c5, kt_c6, kt_c512, kt_c10, kt_c10000] at hk_70
            refine lv_ishr hx hb dX11_line_71 ?_
            refine lv_bipush (v := 7) hx hb dX11_line_72 (by decide) ?_
            refine lv_iand hx hb dX11_line_74 ?_
            refine lv_topi (fun t_74 et_74 => ?_)
            have ha_74 : 0 ≤ t_74.toInt ∧ t_74.toInt ≤ 7 := by rw [et_74]; exact kt_and7 _
            refine lv_goto (tgt := 79) hx hb dX11_line_75 (by decide) ?_
            have hi_2 : vp_in t_59 81 := by exact kt_in (by omega) (by omega)
            refine va_iast hx hb hK hP hD hS 1 0 rfl rfl hi_2 dX11_line_79 (fun H locs hP hD hS => ?_)
            have hP : va_P D vwCl [(mx, .inr (11, [.int ml, .int mw, .ref ms, .int mgl, .int mhd, .int mre, .int mag, .int mkt, .int mho, .int mpc, .int msd, .int mki, .ref mk, .ref ma, .ref mo, .ref mg, .ref mm, .ref mt, .int mdn, .int mun, .ref mn, .int mtk, .ref me, .ref mq, .int msv, .ref mwo, .ref md, .ref mf, .ref mr])), (ms, .inl (cI, 81, .inl (upd g t_59.toNatClampNeg t_74)))] H := hP
            have hD : va_D A [(mx, .inr (11, [.int ml, .int mw, .ref ms, .int mgl, .int mhd, .int mre, .int mag, .int mkt, .int mho, .int mpc, .int msd, .int mki, .ref mk, .ref ma, .ref mo, .ref mg, .ref mm, .ref mt, .int mdn, .int mun, .ref mn, .int mtk, .ref me, .ref mq, .int msv, .ref mwo, .ref md, .ref mf, .ref mr])), (ms, .inl (cI, 81, .inl (upd g t_59.toNatClampNeg t_74)))] := hD
            refine lv_iinc (v := nI (k + 1)) (lv' := [(4, .int (nI (k + 1))), (0, .ref mx), (1, .int p1), (2, .int p2), (3, .int p3)]) hx hb dX11_line_80 hl (k := 0) rfl (nI_1 _) (by decide) rfl (fun ls hl => ?_)
            refine lv_goto (tgt := 38) hx hb dX11_line_83 (by decide) ?_
            exact ih_38 ((k + 1), (upd g t_59.toNatClampNeg t_74)) (by show ((k + 1) ≤ 9 ∧ 9 < (k + 1) + n_38 ∧ ((k + 1) : Int) ≤ mw.toInt) ∧ (upd g t_59.toNatClampNeg t_74) = kt_tl fs (p1.toInt * mw.toInt).toNat p2 p3 (k + 1); exact ⟨by omega, by rw [kt_clamp (n := (p1.toInt * mw.toInt).toNat + k) (by omega), hg]; show _ = upd _ _ _; first | rw [if_pos (Int32.not_le.mp c_63), ← et_70, ← et_74] | rw [if_neg (by rw [Int32.not_lt]; exact c_63)]⟩) H _ hP hD hS ls (lv_sub hl [0, 1, 2, 3, 4] rfl)
      · have d_30 := c_30
        simp only [kt_lt, kt_le, kt_eq, kt_c0, kt_c1, kt_c2, kt_c3, kt_c4, kt_c8, kt_c9, kt_cm1, kt_c81, kt_c40, kt_c7, kt_c5, kt_c6, kt_c512, kt_c10, kt_c10000] at d_30
        refine lv_iconst (v := 0) hx hb dX11_line_33 (by decide) ?_
        exact kt_rz fs hx hb hr hlk hS dX11_line_34 hP hD (by show ((0 : Int32) = 1 ∧ (mho.toInt = 0 ∧ 0 ≤ p1.toInt ∧ p1.toInt < ml.toInt ∧ 0 ≤ p2.toInt ∧ p2.toInt ≤ mw.toInt) ∧ fs = kt_tl fs (p1.toInt * mw.toInt).toNat p2 p3 mw.toInt.toNat) ∨ ((0 : Int32) = 0 ∧ ¬ (mho.toInt = 0 ∧ 0 ≤ p1.toInt ∧ p1.toInt < ml.toInt ∧ 0 ≤ p2.toInt ∧ p2.toInt ≤ mw.toInt) ∧ fs = fs); first | exact Or.inr ⟨rfl, fun h => by omega, rfl⟩ | exact Or.inr ⟨rfl, fun h => (hw_15.f c_18) (by omega), rfl⟩ | exact Or.inr ⟨rfl, fun h => (hw_27.f c_30) (by omega), rfl⟩ | exact Or.inl ⟨rfl, by omega, by rw [hg, show mw.toInt.toNat = k by omega]⟩) rfl

theorem iw_X11_law_X11 : ∀ w ∈ wsX110, w ∈ wsX11_law := fun _ h => kt_wp_X11_law__X110 h
set_option maxHeartbeats 4000000 in
set_option maxRecDepth 100000 in
theorem c_X11_law (l : Launch) (D : va_G) (cI cZ cB : ClassId) (sz : Nat) (mx : Nat) (ms : Nat) (mk : Nat) (ma : Nat) (mo : Nat) (mg : Nat) (mm : Nat) (mt : Nat) (mn : Nat) (me : Nat) (mq : Nat) (mwo : Nat) (md : Nat) (mf : Nat) (mr : Nat) (ml : Int32) (mw : Int32) (mgl : Int32) (mhd : Int32) (mre : Int32) (mag : Int32) (mkt : Int32) (mho : Int32) (mpc : Int32) (msd : Int32) (mki : Int32) (mdn : Int32) (mun : Int32) (mtk : Int32) (msv : Int32) (p1 : Int32) (p2 : Int32) (p3 : Int32) (p4 : Int32) (p5 : Int32) (hz : 0 ≤ p3.toInt ∧ p3.toInt ≤ 1) (hho : 0 ≤ mho.toInt ∧ mho.toInt ≤ 4) : kt_Mi l yX11_law wsX11_law { frames := 1, cells := 0, slots := 0, locals := 22 } D (kt_ty cI cZ cB) [.ref mx, .int p1, .int p2, .int p3, .int p4, .int p5] sz [(mx, .inr (11, [.int ml, .int mw, .ref ms, .int mgl, .int mhd, .int mre, .int mag, .int mkt, .int mho, .int mpc, .int msd, .int mki, .ref mk, .ref ma, .ref mo, .ref mg, .ref mm, .ref mt, .int mdn, .int mun, .ref mn, .int mtk, .ref me, .ref mq, .int msv, .ref mwo, .ref md, .ref mf, .ref mr]))] (fun (r : Int32) (u : Int32 × Int32 × Int32 × Int32 × Int32) => (r = 1 ∧ (mho.toInt = 0 ∧ (p1.toInt = 0 ∨ p1.toInt = 1) ∧ (p2.toInt = 2 ∨ p2.toInt = 4) ∧ 0 ≤ p4.toInt ∧ p4.toInt ≤ 8 ∧ (p5.toInt = 0 ∨ p5.toInt = 1)) ∧ u.1 = p1 ∧ u.2.1 = p2 ∧ u.2.2.1 = p3 ∧ u.2.2.2.1 = p4 ∧ u.2.2.2.2 = p5) ∨ (r = 0 ∧ ¬ (mho.toInt = 0 ∧ (p1.toInt = 0 ∨ p1.toInt = 1) ∧ (p2.toInt = 2 ∨ p2.toInt = 4) ∧ 0 ≤ p4.toInt ∧ p4.toInt ≤ 8 ∧ (p5.toInt = 0 ∨ p5.toInt = 1)) ∧ u.1 = mgl ∧ u.2.1 = mhd ∧ u.2.2.1 = mkt ∧ u.2.2.2.1 = mre ∧ u.2.2.2.2 = mag)) (fun (u : Int32 × Int32 × Int32 × Int32 × Int32) => [(mx, .inr (11, [.int ml, .int mw, .ref ms, .int u.1, .int u.2.1, .int u.2.2.2.1, .int u.2.2.2.2, .int u.2.2.1, .int mho, .int mpc, .int msd, .int mki, .ref mk, .ref ma, .ref mo, .ref mg, .ref mm, .ref mt, .int mdn, .int mun, .ref mn, .int mtk, .ref me, .ref mq, .int msv, .ref mwo, .ref md, .ref mf, .ref mr]))]) 0 0 := by
  refine kt_Mi.of (cc := cX11_law) (maxL := 6) (ret := some .boolean) (by decide) rfl (Nat.le_of_ble_eq_true rfl) ?_
  intro p e s m below meth c A ls H hAt hP hD hS hl
  obtain ⟨hx, hb, hr, hml, hown, hts, hN, hK, hlk, hnm, hA⟩ := hAt
  have hl : lv_has ls 6 [(0, .ref mx), (1, .int p1), (2, .int p2), (3, .int p3), (4, .int p4), (5, .int p5)] := hl
  have hown : s.vm.findClass RX11 = some m.cls := hown
  refine lv_aload_n hx hb dX11_law_0 rfl (lv_at hl 0 rfl) ?_
  refine va_get (D := D) (ci := 11) (C := RX11) (T := TX11) (N := 29) hx hb hts iw_X11_law_X11 hown hK hP 0 rfl rfl 8 (by decide) (hts (.fieldLink RX11 73 "KingTableModel" "how" "I") (List.mem_cons_of_mem _ (List.mem_append_left _ (List.Mem.head _)))) (fun _ h9 => h9) rfl dX11_law_1 ?_
  refine lv_if_gt (tgt := 47) hx hb dX11_law_4 (by decide) (fun c_4 => ?_) (fun c_4 => ?_)
  · have d_4 := c_4
    simp only [kt_lt, kt_le, kt_eq, kt_c0, kt_c1, kt_c2, kt_c3, kt_c4, kt_c8, kt_c9, kt_cm1, kt_c81, kt_c40, kt_c7, kt_c5, kt_c6, kt_c512, kt_c10, kt_c10000] at d_4
    refine lv_iconst (v := 0) hx hb dX11_law_47 (by decide) ?_
    exact kt_rz (mgl, mhd, mkt, mre, mag) hx hb hr hlk hS dX11_law_48 hP hD (by show ((0 : Int32) = 1 ∧ (mho.toInt = 0 ∧ (p1.toInt = 0 ∨ p1.toInt = 1) ∧ (p2.toInt = 2 ∨ p2.toInt = 4) ∧ 0 ≤ p4.toInt ∧ p4.toInt ≤ 8 ∧ (p5.toInt = 0 ∨ p5.toInt = 1)) ∧ mgl = p1 ∧ mhd = p2 ∧ mkt = p3 ∧ mre = p4 ∧ mag = p5) ∨ ((0 : Int32) = 0 ∧ ¬ (mho.toInt = 0 ∧ (p1.toInt = 0 ∨ p1.toInt = 1) ∧ (p2.toInt = 2 ∨ p2.toInt = 4) ∧ 0 ≤ p4.toInt ∧ p4.toInt ≤ 8 ∧ (p5.toInt = 0 ∨ p5.toInt = 1)) ∧ mgl = mgl ∧ mhd = mhd ∧ mkt = mkt ∧ mre = mre ∧ mag = mag); first | exact Or.inr ⟨rfl, fun h => by omega, rfl, rfl, rfl, rfl, rfl⟩ | exact Or.inr ⟨rfl, fun h => (hw_10.f c_13) (by omega), rfl, rfl, rfl, rfl, rfl⟩ | exact Or.inr ⟨rfl, fun h => (hw_31.f c_34) (by omega), rfl, rfl, rfl, rfl, rfl⟩ | exact Or.inr ⟨rfl, fun h => (hw_41.f c_44) (by omega), rfl, rfl, rfl, rfl, rfl⟩ | exact Or.inl ⟨rfl, by omega, rfl, rfl, rfl, rfl, rfl⟩) rfl
  · have d_4 := c_4
    simp only [kt_lt, kt_le, kt_eq, kt_c0, kt_c1, kt_c2, kt_c3, kt_c4, kt_c8, kt_c9, kt_cm1, kt_c81, kt_c40, kt_c7, kt_c5, kt_c6, kt_c512, kt_c10, kt_c10000] at d_4
    refine lv_iload_n hx hb dX11_law_7 rfl (lv_at hl 1 rfl) ?_
    refine lv_iconst (v := 0) hx hb dX11_law_8 (by decide) ?_
    refine lv_iconst (v := 1) hx hb dX11_law_9 (by decide) ?_
    refine kt_pi (wc := []) [] hP hD hS hA rfl (by decide) (fun hPc hDc => va_runS (As := [.int p1, .int 0, .int 1]) (rest := []) ⟨hx, hb, hml, hown, hts⟩ (c_X11_isIn l D cI cZ cB H.size p1 0 1 ) (va_cwS 3 hts gX11_law_X11_isIn rfl rfl rfl (by decide +kernel) ⟨Nat.le_of_ble_eq_true rfl, Nat.le_of_ble_eq_true rfl⟩) (kt_preS hN hK hPc hDc) rfl rfl hl.1 rfl (lv_room (Nat.le_of_ble_eq_true rfl)) dX11_law_10 ⟨Nat.le_of_ble_eq_true rfl, Nat.le_of_ble_eq_true rfl⟩) (fun r_10 _ H locs hw_10 hP hS => ?_)
    simp only [kt_c0, kt_c1] at hw_10
    refine lv_if_eq (tgt := 47) hx hb dX11_law_13 (by decide) (fun c_13 => ?_) (fun c_13 => ?_)
    · have d_13 := c_13
      simp only [kt_lt, kt_le, kt_eq, kt_c0, kt_c1, kt_c2, kt_c3, kt_c4, kt_c8, kt_c9, kt_cm1, kt_c81, kt_c40, kt_c7, kt_c5, kt_c6, kt_c512, kt_c10, kt_c10000] at d_13
      refine lv_iconst (v := 0) hx hb dX11_law_47 (by decide) ?_
      exact kt_rz (mgl, mhd, mkt, mre, mag) hx hb hr hlk hS dX11_law_48 hP hD (by show ((0 : Int32) = 1 ∧ (mho.toInt = 0 ∧ (p1.toInt = 0 ∨ p1.toInt = 1) ∧ (p2.toInt = 2 ∨ p2.toInt = 4) ∧ 0 ≤ p4.toInt ∧ p4.toInt ≤ 8 ∧ (p5.toInt = 0 ∨ p5.toInt = 1)) ∧ mgl = p1 ∧ mhd = p2 ∧ mkt = p3 ∧ mre = p4 ∧ mag = p5) ∨ ((0 : Int32) = 0 ∧ ¬ (mho.toInt = 0 ∧ (p1.toInt = 0 ∨ p1.toInt = 1) ∧ (p2.toInt = 2 ∨ p2.toInt = 4) ∧ 0 ≤ p4.toInt ∧ p4.toInt ≤ 8 ∧ (p5.toInt = 0 ∨ p5.toInt = 1)) ∧ mgl = mgl ∧ mhd = mhd ∧ mkt = mkt ∧ mre = mre ∧ mag = mag); first | exact Or.inr ⟨rfl, fun h => by omega, rfl, rfl, rfl, rfl, rfl⟩ | exact Or.inr ⟨rfl, fun h => (hw_10.f c_13) (by omega), rfl, rfl, rfl, rfl, rfl⟩ | exact Or.inr ⟨rfl, fun h => (hw_31.f c_34) (by omega), rfl, rfl, rfl, rfl, rfl⟩ | exact Or.inr ⟨rfl, fun h => (hw_41.f c_44) (by omega), rfl, rfl, rfl, rfl, rfl⟩ | exact Or.inl ⟨rfl, by omega, rfl, rfl, rfl, rfl, rfl⟩) rfl
    · have d_13 := c_13
      simp only [kt_lt, kt_le, kt_eq, kt_c0, kt_c1, kt_c2, kt_c3, kt_c4, kt_c8, kt_c9, kt_cm1, kt_c81, kt_c40, kt_c7, kt_c5, kt_c6, kt_c512, kt_c10, kt_c10000] at d_13
      have hs1 := hw_10.t c_13
      refine lv_iload_n hx hb dX11_law_16 rfl (lv_at hl 2 rfl) ?_
      refine lv_iconst (v := 2) hx hb dX11_law_17 (by decide) ?_
      refine kt_join (σ := Unit) 26 6 (fun u => [(mx, .inr (11, [.int ml, .int mw, .ref ms, .int mgl, .int mhd, .int mre, .int mag, .int mkt, .int mho, .int mpc, .int msd, .int mki, .ref mk, .ref ma, .ref mo, .ref mg, .ref mm, .ref mt, .int mdn, .int mun, .ref mn, .int mtk, .ref me, .ref mq, .int msv, .ref mwo, .ref md, .ref mf, .ref mr]))]) (fun u => [(0, .ref mx), (1, .int p1), (2, .int p2), (3, .int p3), (4, .int p4), (5, .int p5)]) (fun u => []) (fun u => p2.toInt = 2 ∨ p2.toInt = 4) (D := D) (A := A) (H0 := s.heap) (fun u hI H locs hP hD hS ls hl => ?_) (fun j_26 => ?_)
      · have hP : va_P D vwCl [(mx, .inr (11, [.int ml, .int mw, .ref ms, .int mgl, .int mhd, .int mre, .int mag, .int mkt, .int mho, .int mpc, .int msd, .int mki, .ref mk, .ref ma, .ref mo, .ref mg, .ref mm, .ref mt, .int mdn, .int mun, .ref mn, .int mtk, .ref me, .ref mq, .int msv, .ref mwo, .ref md, .ref mf, .ref mr]))] H := hP
        have hD : va_D A [(mx, .inr (11, [.int ml, .int mw, .ref ms, .int mgl, .int mhd, .int mre, .int mag, .int mkt, .int mho, .int mpc, .int msd, .int mki, .ref mk, .ref ma, .ref mo, .ref mg, .ref mm, .ref mt, .int mdn, .int mun, .ref mn, .int mtk, .ref me, .ref mq, .int msv, .ref mwo, .ref md, .ref mf, .ref mr]))] := hD
        have hl : lv_has ls 6 [(0, .ref mx), (1, .int p1), (2, .int p2), (3, .int p3), (4, .int p4), (5, .int p5)] := hl
        have hI : p2.toInt = 2 ∨ p2.toInt = 4 := hI
        have hI26 := hI
        refine lv_iload hx hb dX11_law_26 (lv_at hl 4 rfl) ?_
        refine lv_iconst (v := 0) hx hb dX11_law_28 (by decide) ?_
        refine lv_bipush (v := 8) hx hb dX11_law_29 (by decide) ?_
        refine kt_pi (wc := []) [] hP hD hS hA rfl (by decide) (fun hPc hDc => va_runS (As := [.int p4, .int 0, .int 8]) (rest := []) ⟨hx, hb, hml, hown, hts⟩ (c_X11_isIn l D cI cZ cB H.size p4 0 8 ) (va_cwS 3 hts gX11_law_X11_isIn rfl rfl rfl (by decide +kernel) ⟨Nat.le_of_ble_eq_true rfl, Nat.le_of_ble_eq_true rfl⟩) (kt_preS hN hK hPc hDc) rfl rfl hl.1 rfl (lv_room (Nat.le_of_ble_eq_true rfl)) dX11_law_31 ⟨Nat.le_of_ble_eq_true rfl, Nat.le_of_ble_eq_true rfl⟩) (fun r_31 _ H locs hw_31 hP hS => ?_)
        simp only [kt_c0, kt_c8] at hw_31
        refine lv_if_eq (tgt := 47) hx hb dX11_law_34 (by decide) (fun c_34 => ?_) (fun c_34 => ?_)
        · have d_34 := c_34
          simp only [kt_lt, kt_le, kt_eq, kt_c0, kt_c1, kt_c2, kt_c3, kt_c4, kt_c8, kt_c9, kt_cm1, kt_c81, kt_c40, kt_c7, kt_c5, kt_c6, kt_c512, kt_c10, kt_c10000] at d_34
          refine lv_iconst (v := 0) hx hb dX11_law_47 (by decide) ?_
          exact kt_rz (mgl, mhd, mkt, mre, mag) hx hb hr hlk hS dX11_law_48 hP hD (by show ((0 : Int32) = 1 ∧ (mho.toInt = 0 ∧ (p1.toInt = 0 ∨ p1.toInt = 1) ∧ (p2.toInt = 2 ∨ p2.toInt = 4) ∧ 0 ≤ p4.toInt ∧ p4.toInt ≤ 8 ∧ (p5.toInt = 0 ∨ p5.toInt = 1)) ∧ mgl = p1 ∧ mhd = p2 ∧ mkt = p3 ∧ mre = p4 ∧ mag = p5) ∨ ((0 : Int32) = 0 ∧ ¬ (mho.toInt = 0 ∧ (p1.toInt = 0 ∨ p1.toInt = 1) ∧ (p2.toInt = 2 ∨ p2.toInt = 4) ∧ 0 ≤ p4.toInt ∧ p4.toInt ≤ 8 ∧ (p5.toInt = 0 ∨ p5.toInt = 1)) ∧ mgl = mgl ∧ mhd = mhd ∧ mkt = mkt ∧ mre = mre ∧ mag = mag); first | exact Or.inr ⟨rfl, fun h => by omega, rfl, rfl, rfl, rfl, rfl⟩ | exact Or.inr ⟨rfl, fun h => (hw_10.f c_13) (by omega), rfl, rfl, rfl, rfl, rfl⟩ | exact Or.inr ⟨rfl, fun h => (hw_31.f c_34) (by omega), rfl, rfl, rfl, rfl, rfl⟩ | exact Or.inr ⟨rfl, fun h => (hw_41.f c_44) (by omega), rfl, rfl, rfl, rfl, rfl⟩ | exact Or.inl ⟨rfl, by omega, rfl, rfl, rfl, rfl, rfl⟩) rfl
        · have d_34 := c_34
          simp only [kt_lt, kt_le, kt_eq, kt_c0, kt_c1, kt_c2, kt_c3, kt_c4, kt_c8, kt_c9, kt_cm1, kt_c81, kt_c40, kt_c7, kt_c5, kt_c6, kt_c512, kt_c10, kt_c10000] at d_34
          have hs2 := hw_31.t c_34
          refine lv_iload hx hb dX11_law_37 (lv_at hl 5 rfl) ?_
          refine lv_iconst (v := 0) hx hb dX11_law_39 (by decide) ?_
          refine lv_iconst (v := 1) hx hb dX11_law_40 (by decide) ?_
          refine kt_pi (wc := []) [] hP hD hS hA rfl (by decide) (fun hPc hDc => va_runS (As := [.int p5, .int 0, .int 1]) (rest := []) ⟨hx, hb, hml, hown, hts⟩ (c_X11_isIn l D cI cZ cB H.size p5 0 1 ) (va_cwS 3 hts gX11_law_X11_isIn rfl rfl rfl (by decide +kernel) ⟨Nat.le_of_ble_eq_true rfl, Nat.le_of_ble_eq_true rfl⟩) (kt_preS hN hK hPc hDc) rfl rfl hl.1 rfl (lv_room (Nat.le_of_ble_eq_true rfl)) dX11_law_41 ⟨Nat.le_of_ble_eq_true rfl, Nat.le_of_ble_eq_true rfl⟩) (fun r_41 _ H locs hw_41 hP hS => ?_)
          simp only [kt_c0, kt_c1] at hw_41
          refine lv_if_ne (tgt := 49) hx hb dX11_law_44 (by decide) (fun c_44 => ?_) (fun c_44 => ?_)
          · have d_44 := c_44
            simp only [kt_lt, kt_le, kt_eq, kt_c0, kt_c1, kt_c2, kt_c3, kt_c4, kt_c8, kt_c9, kt_cm1, kt_c81, kt_c40, kt_c7, kt_c5, kt_c6, kt_c512, kt_c10, kt_c10000] at d_44
            have hs3 := hw_41.t c_44
            refine lv_aload_n hx hb dX11_law_49 rfl (lv_at hl 0 rfl) ?_
            refine lv_iload_n hx hb dX11_law_50 rfl (lv_at hl 1 rfl) ?_
            refine va_put (D := D) (ci := 11) (v := .int p1) (ty := .int) (C := RX11) (T := TX11) (N := 29) hx hb hts iw_X11_law_X11 tyX11 tyX11_ok nmX11 hown hK hP hD hS 0 rfl rfl 3 (by decide) (hts (.fieldLink RX11 79 "KingTableModel" "goal" "I") (List.mem_cons_of_mem _ (List.mem_append_left _ (List.mem_cons_of_mem _ (List.Mem.head _))))) (fun _ h9 => h9) rfl (by decide +kernel) rfl rfl (Nat.le_of_ble_eq_true rfl) dX11_law_51 (fun H locs hP hD hS => ?_)
            have hP : va_P D vwCl [(mx, .inr (11, [.int ml, .int mw, .ref ms, .int p1, .int mhd, .int mre, .int mag, .int mkt, .int mho, .int mpc, .int msd, .int mki, .ref mk, .ref ma, .ref mo, .ref mg, .ref mm, .ref mt, .int mdn, .int mun, .ref mn, .int mtk, .ref me, .ref mq, .int msv, .ref mwo, .ref md, .ref mf, .ref mr]))] H := hP
            have hD : va_D A [(mx, .inr (11, [.int ml, .int mw, .ref ms, .int p1, .int mhd, .int mre, .int mag, .int mkt, .int mho, .int mpc, .int msd, .int mki, .ref mk, .ref ma, .ref mo, .ref mg, .ref mm, .ref mt, .int mdn, .int mun, .ref mn, .int mtk, .ref me, .ref mq, .int msv, .ref mwo, .ref md, .ref mf, .ref mr]))] := hD
            refine lv_aload_n hx hb dX11_law_54 rfl (lv_at hl 0 rfl) ?_
            refine lv_iload_n hx hb dX11_law_55 rfl (lv_at hl 2 rfl) ?_
            refine va_put (D := D) (ci := 11) (v := .int p2) (ty := .int) (C := RX11) (T := TX11) (N := 29) hx hb hts iw_X11_law_X11 tyX11 tyX11_ok nmX11 hown hK hP hD hS 0 rfl rfl 4 (by decide) (hts (.fieldLink RX11 20 "KingTableModel" "hard" "I") (List.mem_cons_of_mem _ (List.mem_append_left _ (List.mem_cons_of_mem _ (List.mem_cons_of_mem _ (List.Mem.head _)))))) (fun _ h9 => h9) rfl (by decide +kernel) rfl rfl (Nat.le_of_ble_eq_true rfl) dX11_law_56 (fun H locs hP hD hS => ?_)
            have hP : va_P D vwCl [(mx, .inr (11, [.int ml, .int mw, .ref ms, .int p1, .int p2, .int mre, .int mag, .int mkt, .int mho, .int mpc, .int msd, .int mki, .ref mk, .ref ma, .ref mo, .ref mg, .ref mm, .ref mt, .int mdn, .int mun, .ref mn, .int mtk, .ref me, .ref mq, .int msv, .ref mwo, .ref md, .ref mf, .ref mr]))] H := hP
            have hD : va_D A [(mx, .inr (11, [.int ml, .int mw, .ref ms, .int p1, .int p2, .int mre, .int mag, .int mkt, .int mho, .int mpc, .int msd, .int mki, .ref mk, .ref ma, .ref mo, .ref mg, .ref mm, .ref mt, .int mdn, .int mun, .ref mn, .int mtk, .ref me, .ref mq, .int msv, .ref mwo, .ref md, .ref mf, .ref mr]))] := hD
            refine lv_aload_n hx hb dX11_law_59 rfl (lv_at hl 0 rfl) ?_
            refine lv_iload_n hx hb dX11_law_60 rfl (lv_at hl 3 rfl) ?_
            refine va_put (D := D) (ci := 11) (v := .int p3) (ty := .boolean) (C := RX11) (T := TX11) (N := 29) hx hb hts iw_X11_law_X11 tyX11 tyX11_ok nmX11 hown hK hP hD hS 0 rfl rfl 7 (by decide) (hts (.fieldLink RX11 23 "KingTableModel" "kingTakes" "Z") (List.mem_cons_of_mem _ (List.mem_append_left _ (List.mem_cons_of_mem _ (List.mem_cons_of_mem _ (List.mem_cons_of_mem _ (List.Mem.head _))))))) (fun _ h9 => h9) rfl (by decide +kernel) (by exact kt_z hz.1 hz.2) (by exact kt_zf hz.1 hz.2) (Nat.le_of_ble_eq_true rfl) dX11_law_61 (fun H locs hP hD hS => ?_)
            have hP : va_P D vwCl [(mx, .inr (11, [.int ml, .int mw, .ref ms, .int p1, .int p2, .int mre, .int mag, .int p3, .int mho, .int mpc, .int msd, .int mki, .ref mk, .ref ma, .ref mo, .ref mg, .ref mm, .ref mt, .int mdn, .int mun, .ref mn, .int mtk, .ref me, .ref mq, .int msv, .ref mwo, .ref md, .ref mf, .ref mr]))] H := hP
            have hD : va_D A [(mx, .inr (11, [.int ml, .int mw, .ref ms, .int p1, .int p2, .int mre, .int mag, .int p3, .int mho, .int mpc, .int msd, .int mki, .ref mk, .ref ma, .ref mo, .ref mg, .ref mm, .ref mt, .int mdn, .int mun, .ref mn, .int mtk, .ref me, .ref mq, .int msv, .ref mwo, .ref md, .ref mf, .ref mr]))] := hD
            refine lv_aload_n hx hb dX11_law_64 rfl (lv_at hl 0 rfl) ?_
            refine lv_iload hx hb dX11_law_65 (lv_at hl 4 rfl) ?_
            refine va_put (D := D) (ci := 11) (v := .int p4) (ty := .int) (C := RX11) (T := TX11) (N := 29) hx hb hts iw_X11_law_X11 tyX11 tyX11_ok nmX11 hown hK hP hD hS 0 rfl rfl 5 (by decide) (hts (.fieldLink RX11 82 "KingTableModel" "reach" "I") (List.mem_cons_of_mem _ (List.mem_append_left _ (List.mem_cons_of_mem _ (List.mem_cons_of_mem _ (List.mem_cons_of_mem _ (List.mem_cons_of_mem _ (List.Mem.head _)))))))) (fun _ h9 => h9) rfl (by decide +kernel) rfl rfl (Nat.le_of_ble_eq_true rfl) dX11_law_67 (fun H locs hP hD hS => ?_)
            have hP : va_P D vwCl [(mx, .inr (11, [.int ml, .int mw, .ref ms, .int p1, .int p2, .int p4, .int mag, .int p3, .int mho, .int mpc, .int msd, .int mki, .ref mk, .ref ma, .ref mo, .ref mg, .ref mm, .ref mt, .int mdn, .int mun, .ref mn, .int mtk, .ref me, .ref mq, .int msv, .ref mwo, .ref md, .ref mf, .ref mr]))] H := hP
            have hD : va_D A [(mx, .inr (11, [.int ml, .int mw, .ref ms, .int p1, .int p2, .int p4, .int mag, .int p3, .int mho, .int mpc, .int msd, .int mki, .ref mk, .ref ma, .ref mo, .ref mg, .ref mm, .ref mt, .int mdn, .int mun, .ref mn, .int mtk, .ref me, .ref mq, .int msv, .ref mwo, .ref md, .ref mf, .ref mr]))] := hD
            refine lv_aload_n hx hb dX11_law_70 rfl (lv_at hl 0 rfl) ?_
            refine lv_iload hx hb dX11_law_71 (lv_at hl 5 rfl) ?_
            refine va_put (D := D) (ci := 11) (v := .int p5) (ty := .int) (C := RX11) (T := TX11) (N := 29) hx hb hts iw_X11_law_X11 tyX11 tyX11_ok nmX11 hown hK hP hD hS 0 rfl rfl 6 (by decide) (hts (.fieldLink RX11 85 "KingTableModel" "again1" "I") (List.mem_cons_of_mem _ (List.mem_append_left _ (List.mem_cons_of_mem _ (List.mem_cons_of_mem _ (List.mem_cons_of_mem _ (List.mem_cons_of_mem _ (List.mem_cons_of_mem _ (List.Mem.head _))))))))) (fun _ h9 => h9) rfl (by decide +kernel) rfl rfl (Nat.le_of_ble_eq_true rfl) dX11_law_73 (fun H locs hP hD hS => ?_)
            have hP : va_P D vwCl [(mx, .inr (11, [.int ml, .int mw, .ref ms, .int p1, .int p2, .int p4, .int p5, .int p3, .int mho, .int mpc, .int msd, .int mki, .ref mk, .ref ma, .ref mo, .ref mg, .ref mm, .ref mt, .int mdn, .int mun, .ref mn, .int mtk, .ref me, .ref mq, .int msv, .ref mwo, .ref md, .ref mf, .ref mr]))] H := hP
            have hD : va_D A [(mx, .inr (11, [.int ml, .int mw, .ref ms, .int p1, .int p2, .int p4, .int p5, .int p3, .int mho, .int mpc, .int msd, .int mki, .ref mk, .ref ma, .ref mo, .ref mg, .ref mm, .ref mt, .int mdn, .int mun, .ref mn, .int mtk, .ref me, .ref mq, .int msv, .ref mwo, .ref md, .ref mf, .ref mr]))] := hD
            refine lv_iconst (v := 1) hx hb dX11_law_76 (by decide) ?_
            exact kt_rz (p1, p2, p3, p4, p5) hx hb hr hlk hS dX11_law_77 hP hD (by show ((1 : Int32) = 1 ∧ (mho.toInt = 0 ∧ (p1.toInt = 0 ∨ p1.toInt = 1) ∧ (p2.toInt = 2 ∨ p2.toInt = 4) ∧ 0 ≤ p4.toInt ∧ p4.toInt ≤ 8 ∧ (p5.toInt = 0 ∨ p5.toInt = 1)) ∧ p1 = p1 ∧ p2 = p2 ∧ p3 = p3 ∧ p4 = p4 ∧ p5 = p5) ∨ ((1 : Int32) = 0 ∧ ¬ (mho.toInt = 0 ∧ (p1.toInt = 0 ∨ p1.toInt = 1) ∧ (p2.toInt = 2 ∨ p2.toInt = 4) ∧ 0 ≤ p4.toInt ∧ p4.toInt ≤ 8 ∧ (p5.toInt = 0 ∨ p5.toInt = 1)) ∧ p1 = mgl ∧ p2 = mhd ∧ p3 = mkt ∧ p4 = mre ∧ p5 = mag); first | exact Or.inr ⟨rfl, fun h => by omega, rfl, rfl, rfl, rfl, rfl⟩ | exact Or.inr ⟨rfl, fun h => (hw_10.f c_13) (by omega), rfl, rfl, rfl, rfl, rfl⟩ | exact Or.inr ⟨rfl, fun h => (hw_31.f c_34) (by omega), rfl, rfl, rfl, rfl, rfl⟩ | exact Or.inr ⟨rfl, fun h => (hw_41.f c_44) (by omega), rfl, rfl, rfl, rfl, rfl⟩ | exact Or.inl ⟨rfl, by omega, rfl, rfl, rfl, rfl, rfl⟩) rfl
          · have d_44 := c_44
            simp only [kt_lt, kt_le, kt_eq, kt_c0, kt_c1, kt_c2, kt_c3, kt_c4, kt_c8, kt_c9, kt_cm1, kt_c81, kt_c40, kt_c7, kt_c5, kt_c6, kt_c512, kt_c10, kt_c10000] at d_44
            refine lv_iconst (v := 0) hx hb dX11_law_47 (by decide) ?_
            exact kt_rz (mgl, mhd, mkt, mre, mag) hx hb hr hlk hS dX11_law_48 hP hD (by show ((0 : Int32) = 1 ∧ (mho.toInt = 0 ∧ (p1.toInt = 0 ∨ p1.toInt = 1) ∧ (p2.toInt = 2 ∨ p2.toInt = 4) ∧ 0 ≤ p4.toInt ∧ p4.toInt ≤ 8 ∧ (p5.toInt = 0 ∨ p5.toInt = 1)) ∧ mgl = p1 ∧ mhd = p2 ∧ mkt = p3 ∧ mre = p4 ∧ mag = p5) ∨ ((0 : Int32) = 0 ∧ ¬ (mho.toInt = 0 ∧ (p1.toInt = 0 ∨ p1.toInt = 1) ∧ (p2.toInt = 2 ∨ p2.toInt = 4) ∧ 0 ≤ p4.toInt ∧ p4.toInt ≤ 8 ∧ (p5.toInt = 0 ∨ p5.toInt = 1)) ∧ mgl = mgl ∧ mhd = mhd ∧ mkt = mkt ∧ mre = mre ∧ mag = mag); first | exact Or.inr ⟨rfl, fun h => by omega, rfl, rfl, rfl, rfl, rfl⟩ | exact Or.inr ⟨rfl, fun h => (hw_10.f c_13) (by omega), rfl, rfl, rfl, rfl, rfl⟩ | exact Or.inr ⟨rfl, fun h => (hw_31.f c_34) (by omega), rfl, rfl, rfl, rfl, rfl⟩ | exact Or.inr ⟨rfl, fun h => (hw_41.f c_44) (by omega), rfl, rfl, rfl, rfl, rfl⟩ | exact Or.inl ⟨rfl, by omega, rfl, rfl, rfl, rfl, rfl⟩) rfl
      refine lv_icmp_eq (tgt := 26) hx hb dX11_law_18 (by decide) (fun c_18 => ?_) (fun c_18 => ?_)
      · have d_18 := c_18
        simp only [kt_lt, kt_le, kt_eq, kt_c0, kt_c1, kt_c2, kt_c3, kt_c4, kt_c8, kt_c9, kt_cm1, kt_c81, kt_c40, kt_c7, kt_c5, kt_c6, kt_c512, kt_c10, kt_c10000] at d_18
        exact j_26 () (by show p2.toInt = 2 ∨ p2.toInt = 4; omega) H _ hP hD hS ls (lv_sub hl [0, 1, 2, 3, 4, 5] rfl)
      · have d_18 := c_18
        simp only [kt_lt, kt_le, kt_eq, kt_c0, kt_c1, kt_c2, kt_c3, kt_c4, kt_c8, kt_c9, kt_cm1, kt_c81, kt_c40, kt_c7, kt_c5, kt_c6, kt_c512, kt_c10, kt_c10000] at d_18
        refine lv_iload_n hx hb dX11_law_21 rfl (lv_at hl 2 rfl) ?_
        refine lv_iconst (v := 4) hx hb dX11_law_22 (by decide) ?_
        refine lv_icmp_ne (tgt := 47) hx hb dX11_law_23 (by decide) (fun c_23 => ?_) (fun c_23 => ?_)
        · have d_23 := c_23
          simp only [kt_lt, kt_le, kt_eq, kt_c0, kt_c1, kt_c2, kt_c3, kt_c4, kt_c8, kt_c9, kt_cm1, kt_c81, kt_c40, kt_c7, kt_c5, kt_c6, kt_c512, kt_c10, kt_c10000] at d_23
          refine lv_iconst (v := 0) hx hb dX11_law_47 (by decide) ?_
          exact kt_rz (mgl, mhd, mkt, mre, mag) hx hb hr hlk hS dX11_law_48 hP hD (by show ((0 : Int32) = 1 ∧ (mho.toInt = 0 ∧ (p1.toInt = 0 ∨ p1.toInt = 1) ∧ (p2.toInt = 2 ∨ p2.toInt = 4) ∧ 0 ≤ p4.toInt ∧ p4.toInt ≤ 8 ∧ (p5.toInt = 0 ∨ p5.toInt = 1)) ∧ mgl = p1 ∧ mhd = p2 ∧ mkt = p3 ∧ mre = p4 ∧ mag = p5) ∨ ((0 : Int32) = 0 ∧ ¬ (mho.toInt = 0 ∧ (p1.toInt = 0 ∨ p1.toInt = 1) ∧ (p2.toInt = 2 ∨ p2.toInt = 4) ∧ 0 ≤ p4.toInt ∧ p4.toInt ≤ 8 ∧ (p5.toInt = 0 ∨ p5.toInt = 1)) ∧ mgl = mgl ∧ mhd = mhd ∧ mkt = mkt ∧ mre = mre ∧ mag = mag); first | exact Or.inr ⟨rfl, fun h => by omega, rfl, rfl, rfl, rfl, rfl⟩ | exact Or.inr ⟨rfl, fun h => (hw_10.f c_13) (by omega), rfl, rfl, rfl, rfl, rfl⟩ | exact Or.inr ⟨rfl, fun h => (hw_31.f c_34) (by omega), rfl, rfl, rfl, rfl, rfl⟩ | exact Or.inr ⟨rfl, fun h => (hw_41.f c_44) (by omega), rfl, rfl, rfl, rfl, rfl⟩ | exact Or.inl ⟨rfl, by omega, rfl, rfl, rfl, rfl, rfl⟩) rfl
        · have d_23 := c_23
          simp only [kt_lt, kt_le, kt_eq, kt_c0, kt_c1, kt_c2, kt_c3, kt_c4, kt_c8, kt_c9, kt_cm1, kt_c81, kt_c40, kt_c7, kt_c5, kt_c6, kt_c512, kt_c10, kt_c10000] at d_23
          exact j_26 () (by show p2.toInt = 2 ∨ p2.toInt = 4; omega) H _ hP hD hS ls (lv_sub hl [0, 1, 2, 3, 4, 5] rfl)
