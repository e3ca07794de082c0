theorem iw_X11_bar_X11 : ∀ w ∈ wsX110, w ∈ wsX11_bar := fun _ h => kt_wp_X11_bar__X110 h
set_option maxHeartbeats 4000000 in
set_option maxRecDepth 100000 in
theorem c_X11_bar (l : Launch) (D : va_G) (cI cZ cB : ClassId) (sz : Nat) (mx : Nat) (ms : Nat) (mk : Nat) (ma : Nat) (mo : Nat) (mg : Nat) (mm : Nat) (mt : Nat) (mn : Nat) (me : Nat) (mq : Nat) (mwo : Nat) (md : Nat) (mf : Nat) (mr : Nat) (ml : Int32) (mw : Int32) (mgl : Int32) (mhd : Int32) (mre : Int32) (mag : Int32) (mkt : Int32) (mho : Int32) (mpc : Int32) (msd : Int32) (mki : Int32) (mdn : Int32) (mun : Int32) (mtk : Int32) (msv : Int32) (P_ : Nat) (fa : Nat → Int32) (fo : Nat → Int32) (fr : Nat → Int32) (fk : Nat → Int32) (p1 : Int32) (p2 : Int32) (p3 : Int32) (hml_ : 2 ≤ ml.toInt ∧ ml.toInt ≤ 9) (hmw : 2 ≤ mw.toInt ∧ mw.toInt ≤ 9) (hpc : (P_ : Int) = mpc.toInt ∧ P_ ≤ 40) (hfa : kt_r fa P_ (-1) (ml.toInt * mw.toInt - 1)) (hfo : kt_r fo 81 (-1) ((P_ : Int) - 1)) (hp1 : 0 ≤ p1.toInt ∧ p1.toInt < (P_ : Int)) (hon : 0 ≤ (fa p1.toNatClampNeg).toInt) (hp3 : 1 ≤ p3.toInt) : kt_Mi l yX11_bar wsX11_bar { frames := 1, cells := 0, slots := 0, locals := 26 } D (kt_ty cI cZ cB) [.ref mx, .int p1, .int p2, .int p3] sz [(mx, .inr (11, [.int ml, .int mw, .ref ms, .int mgl, .int mhd, .int mre, .int mag, .int mkt, .int mho, .int mpc, .int msd, .int mki, .ref mk, .ref ma, .ref mo, .ref mg, .ref mm, .ref mt, .int mdn, .int mun, .ref mn, .int mtk, .ref me, .ref mq, .int msv, .ref mwo, .ref md, .ref mf, .ref mr])), (ma, .inl (cI, 40, .inl fa)), (mo, .inl (cI, 81, .inl fo)), (mg, .inl (cI, 81, .inl fr)), (mk, .inl (cI, 40, .inl fk))] (fun (r : Int32) (u : Unit) => (0 ≤ r.toInt ∧ r.toInt ≤ 9) ∧ (r.toInt = 0 → p3.toInt ≤ kt_rom (fa p1.toNatClampNeg).toInt mw.toInt ml.toInt p2.toInt)) (fun (u : Unit) => [(mx, .inr (11, [.int ml, .int mw, .ref ms, .int mgl, .int mhd, .int mre, .int mag, .int mkt, .int mho, .int mpc, .int msd, .int mki, .ref mk, .ref ma, .ref mo, .ref mg, .ref mm, .ref mt, .int mdn, .int mun, .ref mn, .int mtk, .ref me, .ref mq, .int msv, .ref mwo, .ref md, .ref mf, .ref mr])), (ma, .inl (cI, 40, .inl fa)), (mo, .inl (cI, 81, .inl fo)), (mg, .inl (cI, 81, .inl fr)), (mk, .inl (cI, 40, .inl fk))]) 0 0 := by
  refine kt_Mi.of (cc := cX11_bar) (maxL := 6) (ret := some .int) (by decide) rfl (Nat.le_of_ble_eq_true rfl) ?_
  intro p e s m below meth c A ls H hAt hP hD hS hl
  obtain ⟨hx, hb, hr, hml, hown, hts, hN, hK, hlk, hnm, hA⟩ := hAt
  have hl : lv_has ls 6 [(0, .ref mx), (1, .int p1), (2, .int p2), (3, .int p3)] := hl
  have hown : s.vm.findClass RX11 = some m.cls := hown
  have hsb := kt_mulb hml_ hmw
  have hfp := hfa.get (kt_in (x := p1) (n := P_) (by omega) (by omega))
  have hrb := kt_rom_b (a := p2.toInt) hmw hml_ (show 0 ≤ (fa p1.toNatClampNeg).toInt ∧ (fa p1.toNatClampNeg).toInt < ml.toInt * mw.toInt by omega)
  refine lv_aload_n hx hb dX11_bar_0 rfl (lv_at hl 0 rfl) ?_
  refine lv_aload_n hx hb dX11_bar_1 rfl (lv_at hl 0 rfl) ?_
  refine va_get (D := D) (ci := 11) (C := RX11) (T := TX11) (N := 29) hx hb hts iw_X11_bar_X11 hown hK hP 0 rfl rfl 13 (by decide) (hts (.fieldLink RX11 30 "KingTableModel" "at" "[I") (List.mem_cons_of_mem _ (List.mem_append_left _ (List.Mem.head _)))) (fun _ h9 => h9) rfl dX11_bar_2 ?_
  refine lv_iload_n hx hb dX11_bar_5 rfl (lv_at hl 1 rfl) ?_
  have hi_1 : vp_in p1 40 := by exact kt_in (by omega) (by omega)
  refine va_iald hx hb hK hP 1 0 rfl rfl hi_1 dX11_bar_6 ?_
  refine lv_topi (fun a_6 ea_6 => ?_)
  have ra_6 := hfa.get (kt_in (x := p1) (n := P_) (by omega) (by omega))
  rw [← ea_6] at ra_6
  have hrb6 := hrb
  have hon6 := hon
  rw [← ea_6] at hrb6 hon6
  refine lv_iload_n hx hb dX11_bar_7 rfl (lv_at hl 2 rfl) ?_
  refine lv_iload_n hx hb dX11_bar_8 rfl (lv_at hl 3 rfl) ?_
  refine kt_pi (wc := [(mx, .inr (11, [.int ml, .int mw, .ref ms, .int mgl, .int mhd, .int mre, .int mag, .int mkt, .int mho, .int mpc, .int msd, .int mki, .ref mk, .ref ma, .ref mo, .ref mg, .ref mm, .ref mt, .int mdn, .int mun, .ref mn, .int mtk, .ref me, .ref mq, .int msv, .ref mwo, .ref md, .ref mf, .ref mr]))]) [0] hP hD hS hA rfl (by decide) (fun hPc hDc => va_runV (As := [.int a_6, .int p2, .int p3]) (rest := []) ⟨hx, hb, hml, hown, hts⟩ (c_X11_along l D cI cZ cB H.size mx ms mk ma mo mg mm mt mn me mq mwo md mf mr ml mw mgl mhd mre mag mkt mho mpc msd mki mdn mun mtk msv a_6 p2 p3 hml_ hmw (by omega) hp3) (cwV 3 hts gX11_bar_X11_along rfl rfl rfl (by decide +kernel) ⟨Nat.le_of_ble_eq_true rfl, Nat.le_of_ble_eq_true rfl⟩) (kt_preV hN hK hPc hDc 0 (ci := 11) (q := (RX11, TX11, 29)) rfl rfl) rfl rfl hl.1 rfl (lv_room (Nat.le_of_ble_eq_true rfl)) dX11_bar_9 ⟨Nat.le_of_ble_eq_true rfl, Nat.le_of_ble_eq_true rfl⟩) (fun r_9 _ H locs hw_9 hP hS => ?_)
  refine lv_iconst (v := (-1)) hx hb dX11_bar_12 (by decide) ?_
  rw [ea_6] at hw_9
  refine lv_icmp_ne (tgt := 19) hx hb dX11_bar_13 (by decide) (fun c_13 => ?_) (fun c_13 => ?_)
  · have d_13 := c_13
    simp only [kt_lt, kt_le, kt_eq, kt_c0, kt_c1, kt_c2, kt_c3, kt_c4, kt_c8, kt_c9, kt_cm1, kt_c81, kt_c40, kt_c7, kt_c5, kt_c6, kt_c512, kt_c10, kt_c10000] at d_13
    refine lv_aload_n hx hb dX11_bar_19 rfl (lv_at hl 0 rfl) ?_
    refine va_get (D := D) (ci := 11) (C := RX11) (T := TX11) (N := 29) hx hb hts iw_X11_bar_X11 hown hK hP 0 rfl rfl 12 (by decide) (hts (.fieldLink RX11 27 "KingTableModel" "kind" "[I") (List.mem_cons_of_mem _ (List.mem_append_left _ (List.mem_cons_of_mem _ (List.Mem.head _))))) (fun _ h9 => h9) rfl dX11_bar_20 ?_
    refine lv_iload_n hx hb dX11_bar_23 rfl (lv_at hl 1 rfl) ?_
    have hi_2 : vp_in p1 40 := by exact kt_in (by omega) (by omega)
    refine va_iald hx hb hK hP 4 0 rfl rfl hi_2 dX11_bar_24 ?_
    refine lv_topi (fun a_24 ea_24 => ?_)
    refine lv_iconst (v := 2) hx hb dX11_bar_25 (by decide) ?_
    refine lv_icmp_ne (tgt := 47) hx hb dX11_bar_26 (by decide) (fun c_26 => ?_) (fun c_26 => ?_)
    · have d_26 := c_26
      simp only [kt_lt, kt_le, kt_eq, kt_c0, kt_c1, kt_c2, kt_c3, kt_c4, kt_c8, kt_c9, kt_cm1, kt_c81, kt_c40, kt_c7, kt_c5, kt_c6, kt_c512, kt_c10, kt_c10000] at d_26
      have hok : p3.toInt ≤ kt_rom (fa p1.toNatClampNeg).toInt mw.toInt ml.toInt p2.toInt := by
        rcases Int.lt_or_le (kt_rom (fa p1.toNatClampNeg).toInt mw.toInt ml.toInt p2.toInt) p3.toInt with h | h
        · have := hw_9.2 (by omega); omega
        · exact h
      refine lv_iconst (v := 1) hx hb dX11_bar_47 (by decide) ?_
      refine lv_istore (lv' := [(4, .int 1), (0, .ref mx), (1, .int p1), (2, .int p2), (3, .int p3)]) hx hb dX11_bar_48 hl (by decide) rfl (fun ls hl => ?_)
      refine kt_loop (σ := Nat) 50 6 (fun u => [(mx, .inr (11, [.int ml, .int mw, .ref ms, .int mgl, .int mhd, .int mre, .int mag, .int mkt, .int mho, .int mpc, .int msd, .int mki, .ref mk, .ref ma, .ref mo, .ref mg, .ref mm, .ref mt, .int mdn, .int mun, .ref mn, .int mtk, .ref me, .ref mq, .int msv, .ref mwo, .ref md, .ref mf, .ref mr])), (ma, .inl (cI, 40, .inl fa)), (mo, .inl (cI, 81, .inl fo)), (mg, .inl (cI, 81, .inl fr)), (mk, .inl (cI, 40, .inl fk))]) (fun u => [(4, .int (nI u)), (0, .ref mx), (1, .int p1), (2, .int p2), (3, .int p3)]) (fun n u => 1 ≤ u ∧ u ≤ 9 ∧ 9 < u + n) (fun u h => by omega) (fun n_50 ih_50 u hI H locs hP hD hS ls hl => ?_) (9) 1 (by show 1 ≤ 1 ∧ 1 ≤ 9 ∧ 9 < 1 + 9; exact ⟨by decide, by decide, by decide⟩) hP hD hS (lv_sub hl [0, 1, 2, 3, 4] rfl)
      obtain ⟨k, rfl⟩ : ∃ z, z = u := ⟨_, rfl⟩
      have hP : va_P D vwCl [(mx, .inr (11, [.int ml, .int mw, .ref ms, .int mgl, .int mhd, .int mre, .int mag, .int mkt, .int mho, .int mpc, .int msd, .int mki, .ref mk, .ref ma, .ref mo, .ref mg, .ref mm, .ref mt, .int mdn, .int mun, .ref mn, .int mtk, .ref me, .ref mq, .int msv, .ref mwo, .ref md, .ref mf, .ref mr])), (ma, .inl (cI, 40, .inl fa)), (mo, .inl (cI, 81, .inl fo)), (mg, .inl (cI, 81, .inl fr)), (mk, .inl (cI, 40, .inl fk))] H := hP
      have hD : va_D A [(mx, .inr (11, [.int ml, .int mw, .ref ms, .int mgl, .int mhd, .int mre, .int mag, .int mkt, .int mho, .int mpc, .int msd, .int mki, .ref mk, .ref ma, .ref mo, .ref mg, .ref mm, .ref mt, .int mdn, .int mun, .ref mn, .int mtk, .ref me, .ref mq, .int msv, .ref mwo, .ref md, .ref mf, .ref mr])), (ma, .inl (cI, 40, .inl fa)), (mo, .inl (cI, 81, .inl fo)), (mg, .inl (cI, 81, .inl fr)), (mk, .inl (cI, 40, .inl fk))] := hD
      have hl : lv_has ls 6 [(4, .int (nI k)), (0, .ref mx), (1, .int p1), (2, .int p2), (3, .int p3)] := hl
      have hI : 1 ≤ k ∧ k ≤ 9 ∧ 9 < k + (n_50 + 1) := hI
      have hk0 := kt_nI (n := k) (by omega)
      refine lv_iload hx hb dX11_bar_50 (lv_at hl 0 rfl) ?_
      refine lv_iload_n hx hb dX11_bar_52 rfl (lv_at hl 4 rfl) ?_
      refine lv_icmp_gt (tgt := 104) hx hb dX11_bar_53 (by decide) (fun c_53 => ?_) (fun c_53 => ?_)
      · have d_53 := c_53
        simp only [kt_lt, kt_le, kt_eq, kt_c0, kt_c1, kt_c2, kt_c3, kt_c4, kt_c8, kt_c9, kt_cm1, kt_c81, kt_c40, kt_c7, kt_c5, kt_c6, kt_c512, kt_c10, kt_c10000] at d_53
        refine lv_iconst (v := 0) hx hb dX11_bar_104 (by decide) ?_
        exact kt_ri () hx hb hr hlk hS dX11_bar_105 hP hD (by show (0 ≤ (0 : Int32).toInt ∧ (0 : Int32).toInt ≤ 9) ∧ ((0 : Int32).toInt = 0 → p3.toInt ≤ kt_rom (fa p1.toNatClampNeg).toInt mw.toInt ml.toInt p2.toInt); first | exact ⟨by decide, fun h => absurd h (by decide)⟩ | exact ⟨by decide, fun _ => hok⟩)
      · have d_53 := c_53
        simp only [kt_lt, kt_le, kt_eq, kt_c0, kt_c1, kt_c2, kt_c3, kt_c4, kt_c8, kt_c9, kt_cm1, kt_c81, kt_c40, kt_c7, kt_c5, kt_c6, kt_c512, kt_c10, kt_c10000] at d_53
        refine lv_aload_n hx hb dX11_bar_56 rfl (lv_at hl 1 rfl) ?_
        refine lv_aload_n hx hb dX11_bar_57 rfl (lv_at hl 1 rfl) ?_
        refine va_get (D := D) (ci := 11) (C := RX11) (T := TX11) (N := 29) hx hb hts iw_X11_bar_X11 hown hK hP 0 rfl rfl 13 (by decide) (hts (.fieldLink RX11 30 "KingTableModel" "at" "[I") (List.mem_cons_of_mem _ (List.mem_append_left _ (List.Mem.head _)))) (fun _ h9 => h9) rfl dX11_bar_58 ?_
        refine lv_iload_n hx hb dX11_bar_61 rfl (lv_at hl 2 rfl) ?_
        have hi_3 : vp_in p1 40 := by exact kt_in (by omega) (by omega)
        refine va_iald hx hb hK hP 1 0 rfl rfl hi_3 dX11_bar_62 ?_
        refine lv_topi (fun a_62 ea_62 => ?_)
        have ra_62 := hfa.get (kt_in (x := p1) (n := P_) (by omega) (by omega))
        rw [← ea_62] at ra_62
        refine lv_iload_n hx hb dX11_bar_63 rfl (lv_at hl 3 rfl) ?_
        refine lv_iload hx hb dX11_bar_64 (lv_at hl 0 rfl) ?_
        refine kt_pi (wc := [(mx, .inr (11, [.int ml, .int mw, .ref ms, .int mgl, .int mhd, .int mre, .int mag, .int mkt, .int mho, .int mpc, .int msd, .int mki, .ref mk, .ref ma, .ref mo, .ref mg, .ref mm, .ref mt, .int mdn, .int mun, .ref mn, .int mtk, .ref me, .ref mq, .int msv, .ref mwo, .ref md, .ref mf, .ref mr]))]) [0] hP hD hS hA rfl (by decide) (fun hPc hDc => va_runV (As := [.int a_62, .int p2, .int (nI k)]) (rest := []) ⟨hx, hb, hml, hown, hts⟩ (c_X11_along l D cI cZ cB H.size mx ms mk ma mo mg mm mt mn me mq mwo md mf mr ml mw mgl mhd mre mag mkt mho mpc msd mki mdn mun mtk msv a_62 p2 (nI k) hml_ hmw (by rw [ea_62]; omega) (by omega)) (cwV 3 hts gX11_bar_X11_along rfl rfl rfl (by decide +kernel) ⟨Nat.le_of_ble_eq_true rfl, Nat.le_of_ble_eq_true rfl⟩) (kt_preV hN hK hPc hDc 0 (ci := 11) (q := (RX11, TX11, 29)) rfl rfl) rfl rfl hl.1 rfl (lv_room (Nat.le_of_ble_eq_true rfl)) dX11_bar_66 ⟨Nat.le_of_ble_eq_true rfl, Nat.le_of_ble_eq_true rfl⟩) (fun r_66 _ H locs hw_66 hP hS => ?_)
        rw [ea_62] at hw_66
        have hw66 := hw_66.1 (by omega)
        refine lv_istore (lv' := [(5, .int r_66), (4, .int (nI k)), (0, .ref mx), (1, .int p1), (2, .int p2), (3, .int p3)]) hx hb dX11_bar_69 hl (by decide) rfl (fun ls hl => ?_)
        refine lv_aload_n hx hb dX11_bar_71 rfl (lv_at hl 2 rfl) ?_
        refine va_get (D := D) (ci := 11) (C := RX11) (T := TX11) (N := 29) hx hb hts iw_X11_bar_X11 hown hK hP 0 rfl rfl 14 (by decide) (hts (.fieldLink RX11 33 "KingTableModel" "on" "[I") (List.mem_cons_of_mem _ (List.mem_append_left _ (List.mem_cons_of_mem _ (List.mem_cons_of_mem _ (List.mem_cons_of_mem _ (List.Mem.head _))))))) (fun _ h9 => h9) rfl dX11_bar_72 ?_
        refine lv_iload hx hb dX11_bar_75 (lv_at hl 0 rfl) ?_
        have hi_4 : vp_in r_66 81 := by exact kt_in (by omega) (by omega)
        refine va_iald hx hb hK hP 2 0 rfl rfl hi_4 dX11_bar_77 ?_
        refine lv_topi (fun a_77 ea_77 => ?_)
        have ra_77 := hfo.get hi_4
        rw [← ea_77] at ra_77
        refine lv_iconst (v := (-1)) hx hb dX11_bar_78 (by decide) ?_
        refine lv_icmp_eq (tgt := 85) hx hb dX11_bar_79 (by decide) (fun c_79 => ?_) (fun c_79 => ?_)
        · have d_79 := c_79
          simp only [kt_lt, kt_le, kt_eq, kt_c0, kt_c1, kt_c2, kt_c3, kt_c4, kt_c8, kt_c9, kt_cm1, kt_c81, kt_c40, kt_c7, kt_c5, kt_c6, kt_c512, kt_c10, kt_c10000] at d_79
          refine lv_aload_n hx hb dX11_bar_85 rfl (lv_at hl 2 rfl) ?_
          refine lv_iload hx hb dX11_bar_86 (lv_at hl 0 rfl) ?_
          refine lv_iload_n hx hb dX11_bar_88 rfl (lv_at hl 3 rfl) ?_
          refine kt_pi (wc := [(mx, .inr (11, [.int ml, .int mw, .ref ms, .int mgl, .int mhd, .int mre, .int mag, .int mkt, .int mho, .int mpc, .int msd, .int mki, .ref mk, .ref ma, .ref mo, .ref mg, .ref mm, .ref mt, .int mdn, .int mun, .ref mn, .int mtk, .ref me, .ref mq, .int msv, .ref mwo, .ref md, .ref mf, .ref mr])), (mg, .inl (cI, 81, .inl fr)), (mk, .inl (cI, 40, .inl fk))]) [0, 3, 4] hP hD hS hA rfl (by decide) (fun hPc hDc => va_runV (As := [.int r_66, .int p1]) (rest := []) ⟨hx, hb, hml, hown, hts⟩ (c_X11_bears l D cI cZ cB H.size mx ms mk ma mo mg mm mt mn me mq mwo md mf mr ml mw mgl mhd mre mag mkt mho mpc msd mki mdn mun mtk msv fr fk r_66 p1 (by first | assumption | omega | rfl | decide) (by first | assumption | omega | rfl | decide)) (cwV 2 hts gX11_bar_X11_bears rfl rfl rfl (by decide +kernel) ⟨Nat.le_of_ble_eq_true rfl, Nat.le_of_ble_eq_true rfl⟩) (kt_preV hN hK hPc hDc 0 (ci := 11) (q := (RX11, TX11, 29)) rfl rfl) rfl rfl hl.1 rfl (lv_room (Nat.le_of_ble_eq_true rfl)) dX11_bar_89 ⟨Nat.le_of_ble_eq_true rfl, Nat.le_of_ble_eq_true rfl⟩) (fun r_89 _ H locs hw_89 hP hS => ?_)
          refine lv_if_ne (tgt := 98) hx hb dX11_bar_92 (by decide) (fun c_92 => ?_) (fun c_92 => ?_)
          · have d_92 := c_92
            simp only [kt_lt, kt_le, kt_eq, kt_c0, kt_c1, kt_c2, kt_c3, kt_c4, kt_c8, kt_c9, kt_cm1, kt_c81, kt_c40, kt_c7, kt_c5, kt_c6, kt_c512, kt_c10, kt_c10000] at d_92
            refine lv_iinc (v := nI (k + 1)) (lv' := [(4, .int (nI (k + 1))), (5, .int r_66), (0, .ref mx), (1, .int p1), (2, .int p2), (3, .int p3)]) hx hb dX11_bar_98 hl (k := 1) rfl (nI_1 _) (by decide) rfl (fun ls hl => ?_)
            refine lv_goto (tgt := 50) hx hb dX11_bar_101 (by decide) ?_
            exact ih_50 (k + 1) (by show 1 ≤ (k + 1) ∧ (k + 1) ≤ 9 ∧ 9 < (k + 1) + n_50; omega) H _ hP hD hS ls (lv_sub hl [0, 2, 3, 4, 5] rfl)
          · have d_92 := c_92
            simp only [kt_lt, kt_le, kt_eq, kt_c0, kt_c1, kt_c2, kt_c3, kt_c4, kt_c8, kt_c9, kt_cm1, kt_c81, kt_c40, kt_c7, kt_c5, kt_c6, kt_c512, kt_c10, kt_c10000] at d_92
            refine lv_bipush (v := 9) hx hb dX11_bar_95 (by decide) ?_
            exact kt_ri () hx hb hr hlk hS dX11_bar_97 hP hD (by show (0 ≤ (9 : Int32).toInt ∧ (9 : Int32).toInt ≤ 9) ∧ ((9 : Int32).toInt = 0 → p3.toInt ≤ kt_rom (fa p1.toNatClampNeg).toInt mw.toInt ml.toInt p2.toInt); first | exact ⟨by decide, fun h => absurd h (by decide)⟩ | exact ⟨by decide, fun _ => hok⟩)
        · have d_79 := c_79
          simp only [kt_lt, kt_le, kt_eq, kt_c0, kt_c1, kt_c2, kt_c3, kt_c4, kt_c8, kt_c9, kt_cm1, kt_c81, kt_c40, kt_c7, kt_c5, kt_c6, kt_c512, kt_c10, kt_c10000] at d_79
          refine lv_bipush (v := 8) hx hb dX11_bar_82 (by decide) ?_
          exact kt_ri () hx hb hr hlk hS dX11_bar_84 hP hD (by show (0 ≤ (8 : Int32).toInt ∧ (8 : Int32).toInt ≤ 9) ∧ ((8 : Int32).toInt = 0 → p3.toInt ≤ kt_rom (fa p1.toNatClampNeg).toInt mw.toInt ml.toInt p2.toInt); first | exact ⟨by decide, fun h => absurd h (by decide)⟩ | exact ⟨by decide, fun _ => hok⟩)
    · have d_26 := c_26
      simp only [kt_lt, kt_le, kt_eq, kt_c0, kt_c1, kt_c2, kt_c3, kt_c4, kt_c8, kt_c9, kt_cm1, kt_c81, kt_c40, kt_c7, kt_c5, kt_c6, kt_c512, kt_c10, kt_c10000] at d_26
      refine lv_aload_n hx hb dX11_bar_29 rfl (lv_at hl 0 rfl) ?_
      refine va_get (D := D) (ci := 11) (C := RX11) (T := TX11) (N := 29) hx hb hts iw_X11_bar_X11 hown hK hP 0 rfl rfl 5 (by decide) (hts (.fieldLink RX11 82 "KingTableModel" "reach" "I") (List.mem_cons_of_mem _ (List.mem_append_left _ (List.mem_cons_of_mem _ (List.mem_cons_of_mem _ (List.Mem.head _)))))) (fun _ h9 => h9) rfl dX11_bar_30 ?_
      refine lv_if_le (tgt := 47) hx hb dX11_bar_33 (by decide) (fun c_33 => ?_) (fun c_33 => ?_)
      · have d_33 := c_33
        simp only [kt_lt, kt_le, kt_eq, kt_c0, kt_c1, kt_c2, kt_c3, kt_c4, kt_c8, kt_c9, kt_cm1, kt_c81, kt_c40, kt_c7, kt_c5, kt_c6, kt_c512, kt_c10, kt_c10000] at d_33
        have hok : p3.toInt ≤ kt_rom (fa p1.toNatClampNeg).toInt mw.toInt ml.toInt p2.toInt := by
          rcases Int.lt_or_le (kt_rom (fa p1.toNatClampNeg).toInt mw.toInt ml.toInt p2.toInt) p3.toInt with h | h
          · have := hw_9.2 (by omega); omega
          · exact h
        refine lv_iconst (v := 1) hx hb dX11_bar_47 (by decide) ?_
        refine lv_istore (lv' := [(4, .int 1), (0, .ref mx), (1, .int p1), (2, .int p2), (3, .int p3)]) hx hb dX11_bar_48 hl (by decide) rfl (fun ls hl => ?_)
        refine kt_loop (σ := Nat) 50 6 (fun u => [(mx, .inr (11, [.int ml, .int mw, .ref ms, .int mgl, .int mhd, .int mre, .int mag, .int mkt, .int mho, .int mpc, .int msd, .int mki, .ref mk, .ref ma, .ref mo, .ref mg, .ref mm, .ref mt, .int mdn, .int mun, .ref mn, .int mtk, .ref me, .ref mq, .int msv, .ref mwo, .ref md, .ref mf, .ref mr])), (ma, .inl (cI, 40, .inl fa)), (mo, .inl (cI, 81, .inl fo)), (mg, .inl (cI, 81, .inl fr)), (mk, .inl (cI, 40, .inl fk))]) (fun u => [(4, .int (nI u)), (0, .ref mx), (1, .int p1), (2, .int p2), (3, .int p3)]) (fun n u => 1 ≤ u ∧ u ≤ 9 ∧ 9 < u + n) (fun u h => by omega) (fun n_50 ih_50 u hI H locs hP hD hS ls hl => ?_) (9) 1 (by show 1 ≤ 1 ∧ 1 ≤ 9 ∧ 9 < 1 + 9; exact ⟨by decide, by decide, by decide⟩) hP hD hS (lv_sub hl [0, 1, 2, 3, 4] rfl)
        obtain ⟨k, rfl⟩ : ∃ z, z = u := ⟨_, rfl⟩
        have hP : va_P D vwCl [(mx, .inr (11, [.int ml, .int mw, .ref ms, .int mgl, .int mhd, .int mre, .int mag, .int mkt, .int mho, .int mpc, .int msd, .int mki, .ref mk, .ref ma, .ref mo, .ref mg, .ref mm, .ref mt, .int mdn, .int mun, .ref mn, .int mtk, .ref me, .ref mq, .int msv, .ref mwo, .ref md, .ref mf, .ref mr])), (ma, .inl (cI, 40, .inl fa)), (mo, .inl (cI, 81, .inl fo)), (mg, .inl (cI, 81, .inl fr)), (mk, .inl (cI, 40, .inl fk))] H := hP
        have hD : va_D A [(mx, .inr (11, [.int ml, .int mw, .ref ms, .int mgl, .int mhd, .int mre, .int mag, .int mkt, .int mho, .int mpc, .int msd, .int mki, .ref mk, .ref ma, .ref mo, .ref mg, .ref mm, .ref mt, .int mdn, .int mun, .ref mn, .int mtk, .ref me, .ref mq, .int msv, .ref mwo, .ref md, .ref mf, .ref mr])), (ma, .inl (cI, 40, .inl fa)), (mo, .inl (cI, 81, .inl fo)), (mg, .inl (cI, 81, .inl fr)), (mk, .inl (cI, 40, .inl fk))] := hD
        have hl : lv_has ls 6 [(4, .int (nI k)), (0, .ref mx), (1, .int p1), (2, .int p2), (3, .int p3)] := hl
        have hI : 1 ≤ k ∧ k ≤ 9 ∧ 9 < k + (n_50 + 1) := hI
        have hk0 := kt_nI (n := k) (by omega)
        refine lv_iload hx hb dX11_bar_50 (lv_at hl 0 rfl) ?_
        refine lv_iload_n hx hb dX11_bar_52 rfl (lv_at hl 4 rfl) ?_
        refine lv_icmp_gt (tgt := 104) hx hb dX11_bar_53 (by decide) (fun c_53 => ?_) (fun c_53 => ?_)
        · have d_53 := c_53
          simp only [kt_lt, kt_le, kt_eq, kt_c0, kt_c1, kt_c2, kt_c3, kt_c4, kt_c8, kt_c9, kt_cm1, kt_c81, kt_c40, kt_c7, kt_c5, kt_c6, kt_c512, kt_c10, kt_c10000] at d_53
          refine lv_iconst (v := 0) hx hb dX11_bar_104 (by decide) ?_
          exact kt_ri () hx hb hr hlk hS dX11_bar_105 hP hD (by show (0 ≤ (0 : Int32).toInt ∧ (0 : Int32).toInt ≤ 9) ∧ ((0 : Int32).toInt = 0 → p3.toInt ≤ kt_rom (fa p1.toNatClampNeg).toInt mw.toInt ml.toInt p2.toInt); first | exact ⟨by decide, fun h => absurd h (by decide)⟩ | exact ⟨by decide, fun _ => hok⟩)
        · have d_53 := c_53
          simp only [kt_lt, kt_le, kt_eq, kt_c0, kt_c1, kt_c2, kt_c3, kt_c4, kt_c8, kt_c9, kt_cm1, kt_c81, kt_c40, kt_c7, kt_c5, kt_c6, kt_c512, kt_c10, kt_c10000] at d_53
          refine lv_aload_n hx hb dX11_bar_56 rfl (lv_at hl 1 rfl) ?_
          refine lv_aload_n hx hb dX11_bar_57 rfl (lv_at hl 1 rfl) ?_
          refine va_get (D := D) (ci := 11) (C := RX11) (T := TX11) (N := 29) hx hb hts iw_X11_bar_X11 hown hK hP 0 rfl rfl 13 (by decide) (hts (.fieldLink RX11 30 "KingTableModel" "at" "[I") (List.mem_cons_of_mem _ (List.mem_append_left _ (List.Mem.head _)))) (fun _ h9 => h9) rfl dX11_bar_58 ?_
          refine lv_iload_n hx hb dX11_bar_61 rfl (lv_at hl 2 rfl) ?_
          have hi_5 : vp_in p1 40 := by exact kt_in (by omega) (by omega)
          refine va_iald hx hb hK hP 1 0 rfl rfl hi_5 dX11_bar_62 ?_
          refine lv_topi (fun a_62 ea_62 => ?_)
          have ra_62 := hfa.get (kt_in (x := p1) (n := P_) (by omega) (by omega))
          rw [← ea_62] at ra_62
          refine lv_iload_n hx hb dX11_bar_63 rfl (lv_at hl 3 rfl) ?_
          refine lv_iload hx hb dX11_bar_64 (lv_at hl 0 rfl) ?_
          refine kt_pi (wc := [(mx, .inr (11, [.int ml, .int mw, .ref ms, .int mgl, .int mhd, .int mre, .int mag, .int mkt, .int mho, .int mpc, .int msd, .int mki, .ref mk, .ref ma, .ref mo, .ref mg, .ref mm, .ref mt, .int mdn, .int mun, .ref mn, .int mtk, .ref me, .ref mq, .int msv, .ref mwo, .ref md, .ref mf, .ref mr]))]) [0] hP hD hS hA rfl (by decide) (fun hPc hDc => va_runV (As := [.int a_62, .int p2, .int (nI k)]) (rest := []) ⟨hx, hb, hml, hown, hts⟩ (c_X11_along l D cI cZ cB H.size mx ms mk ma mo mg mm mt mn me mq mwo md mf mr ml mw mgl mhd mre mag mkt mho mpc msd mki mdn mun mtk msv a_62 p2 (nI k) hml_ hmw (by rw [ea_62]; omega) (by omega)) (cwV 3 hts gX11_bar_X11_along rfl rfl rfl (by decide +kernel) ⟨Nat.le_of_ble_eq_true rfl, Nat.le_of_ble_eq_true rfl⟩) (kt_preV hN hK hPc hDc 0 (ci := 11) (q := (RX11, TX11, 29)) rfl rfl) rfl rfl hl.1 rfl (lv_room (Nat.le_of_ble_eq_true rfl)) dX11_bar_66 ⟨Nat.le_of_ble_eq_true rfl, Nat.le_of_ble_eq_true rfl⟩) (fun r_66 _ H locs hw_66 hP hS => ?_)
          rw [ea_62] at hw_66
          have hw66 := hw_66.1 (by omega)
          refine lv_istore (lv' := [(5, .int r_66), (4, .int (nI k)), (0, .ref mx), (1, .int p1), (2, .int p2), (3, .int p3)]) hx hb dX11_bar_69 hl (by decide) rfl (fun ls hl => ?_)
          refine lv_aload_n hx hb dX11_bar_71 rfl (lv_at hl 2 rfl) ?_
          refine va_get (D := D) (ci := 11) (C := RX11) (T := TX11) (N := 29) hx hb hts iw_X11_bar_X11 hown hK hP 0 rfl rfl 14 (by decide) (hts (.fieldLink RX11 33 "KingTableModel" "on" "[I") (List.mem_cons_of_mem _ (List.mem_append_left _ (List.mem_cons_of_mem _ (List.mem_cons_of_mem _ (List.mem_cons_of_mem _ (List.Mem.head _))))))) (fun _ h9 => h9) rfl dX11_bar_72 ?_
          refine lv_iload hx hb dX11_bar_75 (lv_at hl 0 rfl) ?_
          have hi_6 : vp_in r_66 81 := by exact kt_in (by omega) (by omega)
          refine va_iald hx hb hK hP 2 0 rfl rfl hi_6 dX11_bar_77 ?_
          refine lv_topi (fun a_77 ea_77 => ?_)
          have ra_77 := hfo.get hi_6
          rw [← ea_77] at ra_77
          refine lv_iconst (v := (-1)) hx hb dX11_bar_78 (by decide) ?_
          refine lv_icmp_eq (tgt := 85) hx hb dX11_bar_79 (by decide) (fun c_79 => ?_) (fun c_79 => ?_)
          · have d_79 := c_79
            simp only [kt_lt, kt_le, kt_eq, kt_c0, kt_c1, kt_c2, kt_c3, kt_c4, kt_c8, kt_c9, kt_cm1, kt_c81, kt_c40, kt_c7, kt_c5, kt_c6, kt_c512, kt_c10, kt_c10000] at d_79
            refine lv_aload_n hx hb dX11_bar_85 rfl (lv_at hl 2 rfl) ?_
            refine lv_iload hx hb dX11_bar_86 (lv_at hl 0 rfl) ?_
            refine lv_iload_n hx hb dX11_bar_88 rfl (lv_at hl 3 rfl) ?_
            refine kt_pi (wc := [(mx, .inr (11, [.int ml, .int mw, .ref ms, .int mgl, .int mhd, .int mre, .int mag, .int mkt, .int mho, .int mpc, .int msd, .int mki, .ref mk, .ref ma, .ref mo, .ref mg, .ref mm, .ref mt, .int mdn, .int mun, .ref mn, .int mtk, .ref me, .ref mq, .int msv, .ref mwo, .ref md, .ref mf, .ref mr])), (mg, .inl (cI, 81, .inl fr)), (mk, .inl (cI, 40, .inl fk))]) [0, 3, 4] hP hD hS hA rfl (by decide) (fun hPc hDc => va_runV (As := [.int r_66, .int p1]) (rest := []) ⟨hx, hb, hml, hown, hts⟩ (c_X11_bears l D cI cZ cB H.size mx ms mk ma mo mg mm mt mn me mq mwo md mf mr ml mw mgl mhd mre mag mkt mho mpc msd mki mdn mun mtk msv fr fk r_66 p1 (by first | assumption | omega | rfl | decide) (by first | assumption | omega | rfl | decide)) (cwV 2 hts gX11_bar_X11_bears rfl rfl rfl (by decide +kernel) ⟨Nat.le_of_ble_eq_true rfl, Nat.le_of_ble_eq_true rfl⟩) (kt_preV hN hK hPc hDc 0 (ci := 11) (q := (RX11, TX11, 29)) rfl rfl) rfl rfl hl.1 rfl (lv_room (Nat.le_of_ble_eq_true rfl)) dX11_bar_89 ⟨Nat.le_of_ble_eq_true rfl, Nat.le_of_ble_eq_true rfl⟩) (fun r_89 _ H locs hw_89 hP hS => ?_)
            refine lv_if_ne (tgt := 98) hx hb dX11_bar_92 (by decide) (fun c_92 => ?_) (fun c_92 => ?_)
            · have d_92 := c_92
              simp only [kt_lt, kt_le, kt_eq, kt_c0, kt_c1, kt_c2, kt_c3, kt_c4, kt_c8, kt_c9, kt_cm1, kt_c81, kt_c40, kt_c7, kt_c5, kt_c6, kt_c512, kt_c10, kt_c10000] at d_92
              refine lv_iinc (v := nI (k + 1)) (lv' := [(4, .int (nI (k + 1))), (5, .int r_66), (0, .ref mx), (1, .int p1), (2, .int p2), (3, .int p3)]) hx hb dX11_bar_98 hl (k := 1) rfl (nI_1 _) (by decide) rfl (fun ls hl => ?_)
              refine lv_goto (tgt := 50) hx hb dX11_bar_101 (by decide) ?_
              exact ih_50 (k + 1) (by show 1 ≤ (k + 1) ∧ (k + 1) ≤ 9 ∧ 9 < (k + 1) + n_50; omega) H _ hP hD hS ls (lv_sub hl [0, 2, 3, 4, 5] rfl)
            · have d_92 := c_92
              simp only [kt_lt, kt_le, kt_eq, kt_c0, kt_c1, kt_c2, kt_c3, kt_c4, kt_c8, kt_c9, kt_cm1, kt_c81, kt_c40, kt_c7, kt_c5, kt_c6, kt_c512, kt_c10, kt_c10000] at d_92
              refine lv_bipush (v := 9) hx hb dX11_bar_95 (by decide) ?_
              exact kt_ri () hx hb hr hlk hS dX11_bar_97 hP hD (by show (0 ≤ (9 : Int32).toInt ∧ (9 : Int32).toInt ≤ 9) ∧ ((9 : Int32).toInt = 0 → p3.toInt ≤ kt_rom (fa p1.toNatClampNeg).toInt mw.toInt ml.toInt p2.toInt); first | exact ⟨by decide, fun h => absurd h (by decide)⟩ | exact ⟨by decide, fun _ => hok⟩)
          · have d_79 := c_79
            simp only [kt_lt, kt_le, kt_eq, kt_c0, kt_c1, kt_c2, kt_c3, kt_c4, kt_c8, kt_c9, kt_cm1, kt_c81, kt_c40, kt_c7, kt_c5, kt_c6, kt_c512, kt_c10, kt_c10000] at d_79
            refine lv_bipush (v := 8) hx hb dX11_bar_82 (by decide) ?_
            exact kt_ri () hx hb hr hlk hS dX11_bar_84 hP hD (by show (0 ≤ (8 : Int32).toInt ∧ (8 : Int32).toInt ≤ 9) ∧ ((8 : Int32).toInt = 0 → p3.toInt ≤ kt_rom (fa p1.toNatClampNeg).toInt mw.toInt ml.toInt p2.toInt); first | exact ⟨by decide, fun h => absurd h (by decide)⟩ | exact ⟨by decide, fun _ => hok⟩)
      · have d_33 := c_33
        simp only [kt_lt, kt_le, kt_eq, kt_c0, kt_c1, kt_c2, kt_c3, kt_c4, kt_c8, kt_c9, kt_cm1, kt_c81, kt_c40, kt_c7, kt_c5, kt_c6, kt_c512, kt_c10, kt_c10000] at d_33
        refine lv_iload_n hx hb dX11_bar_36 rfl (lv_at hl 3 rfl) ?_
        refine lv_aload_n hx hb dX11_bar_37 rfl (lv_at hl 0 rfl) ?_
        refine va_get (D := D) (ci := 11) (C := RX11) (T := TX11) (N := 29) hx hb hts iw_X11_bar_X11 hown hK hP 0 rfl rfl 5 (by decide) (hts (.fieldLink RX11 82 "KingTableModel" "reach" "I") (List.mem_cons_of_mem _ (List.mem_append_left _ (List.mem_cons_of_mem _ (List.mem_cons_of_mem _ (List.Mem.head _)))))) (fun _ h9 => h9) rfl dX11_bar_38 ?_
        refine lv_icmp_le (tgt := 47) hx hb dX11_bar_41 (by decide) (fun c_41 => ?_) (fun c_41 => ?_)
        · have d_41 := c_41
          simp only [kt_lt, kt_le, kt_eq, kt_c0, kt_c1, kt_c2, kt_c3, kt_c4, kt_c8, kt_c9, kt_cm1, kt_c81, kt_c40, kt_c7, kt_c5, kt_c6, kt_c512, kt_c10, kt_c10000] at d_41
          have hok : p3.toInt ≤ kt_rom (fa p1.toNatClampNeg).toInt mw.toInt ml.toInt p2.toInt := by
            rcases Int.lt_or_le (kt_rom (fa p1.toNatClampNeg).toInt mw.toInt ml.toInt p2.toInt) p3.toInt with h | h
            · have := hw_9.2 (by omega); omega
            · exact h
          refine lv_iconst (v := 1) hx hb dX11_bar_47 (by decide) ?_
          refine lv_istore (lv' := [(4, .int 1), (0, .ref mx), (1, .int p1), (2, .int p2), (3, .int p3)]) hx hb dX11_bar_48 hl (by decide) rfl (fun ls hl => ?_)
          refine kt_loop (σ := Nat) 50 6 (fun u => [(mx, .inr (11, [.int ml, .int mw, .ref ms, .int mgl, .int mhd, .int mre, .int mag, .int mkt, .int mho, .int mpc, .int msd, .int mki, .ref mk, .ref ma, .ref mo, .ref mg, .ref mm, .ref mt, .int mdn, .int mun, .ref mn, .int mtk, .ref me, .ref mq, .int msv, .ref mwo, .ref md, .ref mf, .ref mr])), (ma, .inl (cI, 40, .inl fa)), (mo, .inl (cI, 81, .inl fo)), (mg, .inl (cI, 81, .inl fr)), (mk, .inl (cI, 40, .inl fk))]) (fun u => [(4, .int (nI u)), (0, .ref mx), (1, .int p1), (2, .int p2), (3, .int p3)]) (fun n u => 1 ≤ u ∧ u ≤ 9 ∧ 9 < u + n) (fun u h => by omega) (fun n_50 ih_50 u hI H locs hP hD hS ls hl => ?_) (9) 1 (by show 1 ≤ 1 ∧ 1 ≤ 9 ∧ 9 < 1 + 9; exact ⟨by decide, by decide, by decide⟩) hP hD hS (lv_sub hl [0, 1, 2, 3, 4] rfl)
          obtain ⟨k, rfl⟩ : ∃ z, z = u := ⟨_, rfl⟩
          have hP : va_P D vwCl [(mx, .inr (11, [.int ml, .int mw, .ref ms, .int mgl, .int mhd, .int mre, .int mag, .int mkt, .int mho, .int mpc, .int msd, .int mki, .ref mk, .ref ma, .ref mo, .ref mg, .ref mm, .ref mt, .int mdn, .int mun, .ref mn, .int mtk, .ref me, .ref mq, .int msv, .ref mwo, .ref md, .ref mf, .ref mr])), (ma, .inl (cI, 40, .inl fa)), (mo, .inl (cI, 81, .inl fo)), (mg, .inl (cI, 81, .inl fr)), (mk, .inl (cI, 40, .inl fk))] H := hP
          have hD : va_D A [(mx, .inr (11, [.int ml, .int mw, .ref ms, .int mgl, .int mhd, .int mre, .int mag, .int mkt, .int mho, .int mpc, .int msd, .int mki, .ref mk, .ref ma, .ref mo, .ref mg, .ref mm, .ref mt, .int mdn, .int mun, .ref mn, .int mtk, .ref me, .ref mq, .int msv, .ref mwo, .ref md, .ref mf, .ref mr])), (ma, .inl (cI, 40, .inl fa)), (mo, .inl (cI, 81, .inl fo)), (mg, .inl (cI, 81, .inl fr)), (mk, .inl (cI, 40, .inl fk))] := hD
          have hl : lv_has ls 6 [(4, .int (nI k)), (0, .ref mx), (1, .int p1), (2, .int p2), (3, .int p3)] := hl
          have hI : 1 ≤ k ∧ k ≤ 9 ∧ 9 < k + (n_50 + 1) := hI
          have hk0 := kt_nI (n := k) (by omega)
          refine lv_iload hx hb dX11_bar_50 (lv_at hl 0 rfl) ?_
          refine lv_iload_n hx hb dX11_bar_52 rfl (lv_at hl 4 rfl) ?_
          refine lv_icmp_gt (tgt := 104) hx hb dX11_bar_53 (by decide) (fun c_53 => ?_) (fun c_53 => ?_)
          · have d_53 := c_53
            simp only [kt_lt, kt_le, kt_eq, kt_c0, kt_c1, kt_c2, kt_c3, kt_c4, kt_c8, kt_c9, kt_cm1, kt_c81, kt_c40, kt_c7, kt_c5, kt_c6, kt_c512, kt_c10, kt_c10000] at d_53
            refine lv_iconst (v := 0) hx hb dX11_bar_104 (by decide) ?_
            exact kt_ri () hx hb hr hlk hS dX11_bar_105 hP hD (by show (0 ≤ (0 : Int32).toInt ∧ (0 : Int32).toInt ≤ 9) ∧ ((0 : Int32).toInt = 0 → p3.toInt ≤ kt_rom (fa p1.toNatClampNeg).toInt mw.toInt ml.toInt p2.toInt); first | exact ⟨by decide, fun h => absurd h (by decide)⟩ | exact ⟨by decide, fun _ => hok⟩)
          · have d_53 := c_53
            simp only [kt_lt, kt_le, kt_eq, kt_c0, kt_c1, kt_c2, kt_c3, kt_c4, kt_c8, kt_c9, kt_cm1, kt_c81, kt_c40, kt_c7, kt_c5, kt_c6, kt_c512, kt_c10, kt_c10000] at d_53
            refine lv_aload_n hx hb dX11_bar_56 rfl (lv_at hl 1 rfl) ?_
            refine lv_aload_n hx hb dX11_bar_57 rfl (lv_at hl 1 rfl) ?_
            refine va_get (D := D) (ci := 11) (C := RX11) (T := TX11) (N := 29) hx hb hts iw_X11_bar_X11 hown hK hP 0 rfl rfl 13 (by decide) (hts (.fieldLink RX11 30 "KingTableModel" "at" "[I") (List.mem_cons_of_mem _ (List.mem_append_left _ (List.Mem.head _)))) (fun _ h9 => h9) rfl dX11_bar_58 ?_
            refine lv_iload_n hx hb dX11_bar_61 rfl (lv_at hl 2 rfl) ?_
            have hi_7 : vp_in p1 40 := by exact kt_in (by omega) (by omega)
            refine va_iald hx hb hK hP 1 0 rfl rfl hi_7 dX11_bar_62 ?_
            refine lv_topi (fun a_62 ea_62 => ?_)
            have ra_62 := hfa.get (kt_in (x := p1) (n := P_) (by omega) (by omega))
            rw [← ea_62] at ra_62
            refine lv_iload_n hx hb dX11_bar_63 rfl (lv_at hl 3 rfl) ?_
            refine lv_iload hx hb dX11_bar_64 (lv_at hl 0 rfl) ?_
            refine kt_pi (wc := [(mx, .inr (11, [.int ml, .int mw, .ref ms, .int mgl, .int mhd, .int mre, .int mag, .int mkt, .int mho, .int mpc, .int msd, .int mki, .ref mk, .ref ma, .ref mo, .ref mg, .ref mm, .ref mt, .int mdn, .int mun, .ref mn, .int mtk, .ref me, .ref mq, .int msv, .ref mwo, .ref md, .ref mf, .ref mr]))]) [0] hP hD hS hA rfl (by decide) (fun hPc hDc => va_runV (As := [.int a_62, .int p2, .int (nI k)]) (rest := []) ⟨hx, hb, hml, hown, hts⟩ (c_X11_along l D cI cZ cB H.size mx ms mk ma mo mg mm mt mn me mq mwo md mf mr ml mw mgl mhd mre mag mkt mho mpc msd mki mdn mun mtk msv a_62 p2 (nI k) hml_ hmw (by rw [ea_62]; omega) (by omega)) (cwV 3 hts gX11_bar_X11_along rfl rfl rfl (by decide +kernel) ⟨Nat.le_of_ble_eq_true rfl, Nat.le_of_ble_eq_true rfl⟩) (kt_preV hN hK hPc hDc 0 (ci := 11) (q := (RX11, TX11, 29)) rfl rfl) rfl rfl hl.1 rfl (lv_room (Nat.le_of_ble_eq_true rfl)) dX11_bar_66 ⟨Nat.le_of_ble_eq_true rfl, Nat.le_of_ble_eq_true rfl⟩) (fun r_66 _ H locs hw_66 hP hS => ?_)
            rw [ea_62] at hw_66
            have hw66 := hw_66.1 (by omega)
            refine lv_istore (lv' := [(5, .int r_66), (4, .int (nI k)), (0, .ref mx), (1, .int p1), (2, .int p2), (3, .int p3)]) hx hb dX11_bar_69 hl (by decide) rfl (fun ls hl => ?_)
            refine lv_aload_n hx hb dX11_bar_71 rfl (lv_at hl 2 rfl) ?_
            refine va_get (D := D) (ci := 11) (C := RX11) (T := TX11) (N := 29) hx hb hts iw_X11_bar_X11 hown hK hP 0 rfl rfl 14 (by decide) (hts (.fieldLink RX11 33 "KingTableModel" "on" "[I") (List.mem_cons_of_mem _ (List.mem_append_left _ (List.mem_cons_of_mem _ (List.mem_cons_of_mem _ (List.mem_cons_of_mem _ (List.Mem.head _))))))) (fun _ h9 => h9) rfl dX11_bar_72 ?_
            refine lv_iload hx hb dX11_bar_75 (lv_at hl 0 rfl) ?_
            have hi_8 : vp_in r_66 81 := by exact kt_in (by omega) (by omega)
            refine va_iald hx hb hK hP 2 0 rfl rfl hi_8 dX11_bar_77 ?_
            refine lv_topi (fun a_77 ea_77 => ?_)
            have ra_77 := hfo.get hi_8
            rw [← ea_77] at ra_77
            refine lv_iconst (v := (-1)) hx hb dX11_bar_78 (by decide) ?_
            refine lv_icmp_eq (tgt := 85) hx hb dX11_bar_79 (by decide) (fun c_79 => ?_) (fun c_79 => ?_)
            · have d_79 := c_79
              simp only [kt_lt, kt_le, kt_eq, kt_c0, kt_c1, kt_c2, kt_c3, kt_c4, kt_c8, kt_c9, kt_cm1, kt_c81, kt_c40, kt_c7, kt_c5, kt_c6, kt_c512, kt_c10, kt_c10000] at d_79
              refine lv_aload_n hx hb dX11_bar_85 rfl (lv_at hl 2 rfl) ?_
              refine lv_iload hx hb dX11_bar_86 (lv_at hl 0 rfl) ?_
              refine lv_iload_n hx hb dX11_bar_88 rfl (lv_at hl 3 rfl) ?_
              refine kt_pi (wc := [(mx, .inr (11, [.int ml, .int mw, .ref ms, .int mgl, .int mhd, .int mre, .int mag, .int mkt, .int mho, .int mpc, .int msd, .int mki, .ref mk, .ref ma, .ref mo, .ref mg, .ref mm, .ref mt, .int mdn, .int mun, .ref mn, .int mtk, .ref me, .ref mq, .int msv, .ref mwo, .ref md, .ref mf, .ref mr])), (mg, .inl (cI, 81, .inl fr)), (mk, .inl (cI, 40, .inl fk))]) [0, 3, 4] hP hD hS hA rfl (by decide) (fun hPc hDc => va_runV (As := [.int r_66, .int p1]) (rest := []) ⟨hx, hb, hml, hown, hts⟩ (c_X11_bears l D cI cZ cB H.size mx ms mk ma mo mg mm mt mn me mq mwo md mf mr ml mw mgl mhd mre mag mkt mho mpc msd mki mdn mun mtk msv fr fk r_66 p1 (by first | assumption | omega | rfl | decide) (by first | assumption | omega | rfl | decide)) (cwV 2 hts gX11_bar_X11_bears rfl rfl rfl (by decide +kernel) ⟨Nat.le_of_ble_eq_true rfl, Nat.le_of_ble_eq_true rfl⟩) (kt_preV hN hK hPc hDc 0 (ci := 11) (q := (RX11, TX11, 29)) rfl rfl) rfl rfl hl.1 rfl (lv_room (Nat.le_of_ble_eq_true rfl)) dX11_bar_89 ⟨Nat.le_of_ble_eq_true rfl, Nat.le_of_ble_eq_true rfl⟩) (fun r_89 _ H locs hw_89 hP hS => ?_)
              refine lv_if_ne (tgt := 98) hx hb dX11_bar_92 (by decide) (fun c_92 => ?_) (fun c_92 => ?_)
              · have d_92 := c_92
                simp only [kt_lt, kt_le, kt_eq, kt_c0, kt_c1, kt_c2, kt_c3, kt_c4, kt_c8, kt_c9, kt_cm1, kt_c81, kt_c40, kt_c7, kt_c5, kt_c6, kt_c512, kt_c10, kt_c10000] at d_92
                refine lv_iinc (v := nI (k + 1)) (lv' := [(4, .int (nI (k + 1))), (5, .int r_66), (0, .ref mx), (1, .int p1), (2, .int p2), (3, .int p3)]) hx hb dX11_bar_98 hl (k := 1) rfl (nI_1 _) (by decide) rfl (fun ls hl => ?_)
                refine lv_goto (tgt := 50) hx hb dX11_bar_101 (by decide) ?_
                exact ih_50 (k + 1) (by show 1 ≤ (k + 1) ∧ (k + 1) ≤ 9 ∧ 9 < (k + 1) + n_50; omega) H _ hP hD hS ls (lv_sub hl [0, 2, 3, 4, 5] rfl)
              · have d_92 := c_92
                simp only [kt_lt, kt_le, kt_eq, kt_c0, kt_c1, kt_c2, kt_c3, kt_c4, kt_c8, kt_c9, kt_cm1, kt_c81, kt_c40, kt_c7, kt_c5, kt_c6, kt_c512, kt_c10, kt_c10000] at d_92
                refine lv_bipush (v := 9) hx hb dX11_bar_95 (by decide) ?_
                exact kt_ri () hx hb hr hlk hS dX11_bar_97 hP hD (by show (0 ≤ (9 : Int32).toInt ∧ (9 : Int32).toInt ≤ 9) ∧ ((9 : Int32).toInt = 0 → p3.toInt ≤ kt_rom (fa p1.toNatClampNeg).toInt mw.toInt ml.toInt p2.toInt); first | exact ⟨by decide, fun h => absurd h (by decide)⟩ | exact ⟨by decide, fun _ => hok⟩)
            · have d_79 := c_79
              simp only [kt_lt, kt_le, kt_eq, kt_c0, kt_c1, kt_c2, kt_c3, kt_c4, kt_c8, kt_c9, kt_cm1, kt_c81, kt_c40, kt_c7, kt_c5, kt_c6, kt_c512, kt_c10, kt_c10000] at d_79
              refine lv_bipush (v := 8) hx hb dX11_bar_82 (by decide) ?_
              exact kt_ri () hx hb hr hlk hS dX11_bar_84 hP hD (by show (0 ≤ (8 : Int32).toInt ∧ (8 : Int32).toInt ≤ 9) ∧ ((8 : Int32).toInt = 0 → p3.toInt ≤ kt_rom (fa p1.toNatClampNeg).toInt mw.toInt ml.toInt p2.toInt); first | exact ⟨by decide, fun h => absurd h (by decide)⟩ | exact ⟨by decide, fun _ => hok⟩)
        · have d_41 := c_41
          simp only [kt_lt, kt_le, kt_eq, kt_c0, kt_c1, kt_c2, kt_c3, kt_c4, kt_c8, kt_c9, kt_cm1, kt_c81, kt_c40, kt_c7, kt_c5, kt_c6, kt_c512, kt_c10, kt_c10000] at d_41
          refine lv_bipush (v := 7) hx hb dX11_bar_44 (by decide) ?_
          exact kt_ri () hx hb hr hlk hS dX11_bar_46 hP hD (by show (0 ≤ (7 : Int32).toInt ∧ (7 : Int32).toInt ≤ 9) ∧ ((7 : Int32).toInt = 0 → p3.toInt ≤ kt_rom (fa p1.toNatClampNeg).toInt mw.toInt ml.toInt p2.toInt); first | exact ⟨by decide, fun h => absurd h (by decide)⟩ | exact ⟨by decide, fun _ => hok⟩)
  · have d_13 := c_13
    simp only [kt_lt, kt_le, kt_eq, kt_c0, kt_c1, kt_c2, kt_c3, kt_c4, kt_c8, kt_c9, kt_cm1, kt_c81, kt_c40, kt_c7, kt_c5, kt_c6, kt_c512, kt_c10, kt_c10000] at d_13
    refine lv_bipush (v := 6) hx hb dX11_bar_16 (by decide) ?_
    exact kt_ri () hx hb hr hlk hS dX11_bar_18 hP hD (by show (0 ≤ (6 : Int32).toInt ∧ (6 : Int32).toInt ≤ 9) ∧ ((6 : Int32).toInt = 0 → p3.toInt ≤ kt_rom (fa p1.toNatClampNeg).toInt mw.toInt ml.toInt p2.toInt); first | exact ⟨by decide, fun h => absurd h (by decide)⟩ | exact ⟨by decide, fun _ => hok⟩)

theorem iw_X11_movesOf_X11 : ∀ w ∈ wsX110, w ∈ wsX11_movesOf := fun _ h => kt_wp_X11_movesOf__X110 h
set_option maxHeartbeats 4000000 in
set_option maxRecDepth 100000 in
theorem c_X11_movesOf (l : Launch) (D : va_G) (cI cZ cB : ClassId) (sz : Nat) (mx : Nat) (ms : Nat) (mk : Nat) (ma : Nat) (mo : Nat) (mg : Nat) (mm : Nat) (mt : Nat) (mn : Nat) (me : Nat) (mq : Nat) (mwo : Nat) (md : Nat) (mf : Nat) (mr : Nat) (ml : Int32) (mw : Int32) (mgl : Int32) (mhd : Int32) (mre : Int32) (mag : Int32) (mkt : Int32) (mho : Int32) (mpc : Int32) (msd : Int32) (mki : Int32) (mdn : Int32) (mun : Int32) (mtk : Int32) (msv : Int32) (P_ : Nat) (fa : Nat → Int32) (fo : Nat → Int32) (fr : Nat → Int32) (fk : Nat → Int32) (p1 : Int32) (hml_ : 2 ≤ ml.toInt ∧ ml.toInt ≤ 9) (hmw : 2 ≤ mw.toInt ∧ mw.toInt ≤ 9) (hpc : (P_ : Int) = mpc.toInt ∧ P_ ≤ 40) (hfa : kt_r fa P_ (-1) (ml.toInt * mw.toInt - 1)) (hfo : kt_r fo 81 (-1) ((P_ : Int) - 1)) (hp1 : 0 ≤ p1.toInt ∧ p1.toInt < (P_ : Int)) : kt_Mi l yX11_movesOf wsX11_movesOf { frames := 2, cells := 0, slots := 0, locals := 51 } D (kt_ty cI cZ cB) [.ref mx, .int p1] sz [(mx, .inr (11, [.int ml, .int mw, .ref ms, .int mgl, .int mhd, .int mre, .int mag, .int mkt, .int mho, .int mpc, .int msd, .int mki, .ref mk, .ref ma, .ref mo, .ref mg, .ref mm, .ref mt, .int mdn, .int mun, .ref mn, .int mtk, .ref me, .ref mq, .int msv, .ref mwo, .ref md, .ref mf, .ref mr])), (ma, .inl (cI, 40, .inl fa)), (mo, .inl (cI, 81, .inl fo)), (mg, .inl (cI, 81, .inl fr)), (mk, .inl (cI, 40, .inl fk))] (fun (r : Int32) (u : Unit) => True) (fun (u : Unit) => [(mx, .inr (11, [.int ml, .int mw, .ref ms, .int mgl, .int mhd, .int mre, .int mag, .int mkt, .int mho, .int mpc, .int msd, .int mki, .ref mk, .ref ma, .ref mo, .ref mg, .ref mm, .ref mt, .int mdn, .int mun, .ref mn, .int mtk, .ref me, .ref mq, .int msv, .ref mwo, .ref md, .ref mf, .ref mr])), (ma, .inl (cI, 40, .inl fa)), (mo, .inl (cI, 81, .inl fo)), (mg, .inl (cI, 81, .inl fr)), (mk, .inl (cI, 40, .inl fk))]) 0 0 := by
  refine kt_Mi.of (cc := cX11_movesOf) (maxL := 5) (ret := some .int) (by decide) rfl (Nat.le_of_ble_eq_true rfl) ?_
  intro p e s m below meth c A ls H hAt hP hD hS hl
  obtain ⟨hx, hb, hr, hml, hown, hts, hN, hK, hlk, hnm, hA⟩ := hAt
  have hl : lv_has ls 5 [(0, .ref mx), (1, .int p1)] := hl
  have hown : s.vm.findClass RX11 = some m.cls := hown
  refine lv_iconst (v := 0) hx hb dX11_movesOf_0 (by decide) ?_
  refine lv_istore_n (lv' := [(2, .int 0), (0, .ref mx), (1, .int p1)]) hx hb dX11_movesOf_1 rfl hl (by decide) rfl (fun ls hl => ?_)
  refine lv_iconst (v := 0) hx hb dX11_movesOf_2 (by decide) ?_
  refine lv_istore_n (lv' := [(3, .int 0), (2, .int 0), (0, .ref mx), (1, .int p1)]) hx hb dX11_movesOf_3 rfl hl (by decide) rfl (fun ls hl => ?_)
  refine kt_loop (σ := Nat × Int32) 4 5 (fun u => [(mx, .inr (11, [.int ml, .int mw, .ref ms, .int mgl, .int mhd, .int mre, .int mag, .int mkt, .int mho, .int mpc, .int msd, .int mki, .ref mk, .ref ma, .ref mo, .ref mg, .ref mm, .ref mt, .int mdn, .int mun, .ref mn, .int mtk, .ref me, .ref mq, .int msv, .ref mwo, .ref md, .ref mf, .ref mr])), (ma, .inl (cI, 40, .inl fa)), (mo, .inl (cI, 81, .inl fo)), (mg, .inl (cI, 81, .inl fr)), (mk, .inl (cI, 40, .inl fk))]) (fun u => [(3, .int (nI u.1)), (2, .int u.2), (0, .ref mx), (1, .int p1)]) (fun n u => u.1 ≤ 4 ∧ 4 < u.1 + n) (fun u h => by omega) (fun n_4 ih_4 u hI H locs hP hD hS ls hl => ?_) (5) (0, (0 : Int32)) (by show 0 ≤ 4 ∧ 4 < 0 + 5; exact ⟨by decide, by decide⟩) hP hD hS (lv_sub hl [0, 1, 2, 3] rfl)
  obtain ⟨k, c1⟩ := u
  have hP : va_P D vwCl [(mx, .inr (11, [.int ml, .int mw, .ref ms, .int mgl, .int mhd, .int mre, .int mag, .int mkt, .int mho, .int mpc, .int msd, .int mki, .ref mk, .ref ma, .ref mo, .ref mg, .ref mm, .ref mt, .int mdn, .int mun, .ref mn, .int mtk, .ref me, .ref mq, .int msv, .ref mwo, .ref md, .ref mf, .ref mr])), (ma, .inl (cI, 40, .inl fa)), (mo, .inl (cI, 81, .inl fo)), (mg, .inl (cI, 81, .inl fr)), (mk, .inl (cI, 40, .inl fk))] H := hP
  have hD : va_D A [(mx, .inr (11, [.int ml, .int mw, .ref ms, .int mgl, .int mhd, .int mre, .int mag, .int mkt, .int mho, .int mpc, .int msd, .int mki, .ref mk, .ref ma, .ref mo, .ref mg, .ref mm, .ref mt, .int mdn, .int mun, .ref mn, .int mtk, .ref me, .ref mq, .int msv, .ref mwo, .ref md, .ref mf, .ref mr])), (ma, .inl (cI, 40, .inl fa)), (mo, .inl (cI, 81, .inl fo)), (mg, .inl (cI, 81, .inl fr)), (mk, .inl (cI, 40, .inl fk))] := hD
  have hl : lv_has ls 5 [(3, .int (nI k)), (2, .int c1), (0, .ref mx), (1, .int p1)] := hl
  have hI : k ≤ 4 ∧ 4 < k + (n_4 + 1) := hI
  have hk0 := kt_nI (n := k) (by omega)
  refine lv_iload_n hx hb dX11_movesOf_4 rfl (lv_at hl 0 rfl) ?_
  refine lv_iconst (v := 4) hx hb dX11_movesOf_5 (by decide) ?_
  refine lv_icmp_ge (tgt := 60) hx hb dX11_movesOf_6 (by decide) (fun c_6 => ?_) (fun c_6 => ?_)
  · have d_6 := c_6
    simp only [kt_lt, kt_le, kt_eq, kt_c0, kt_c1, kt_c2, kt_c3, kt_c4, kt_c8, kt_c9, kt_cm1, kt_c81, kt_c40, kt_c7, kt_c5, kt_c6, kt_c512, kt_c10, kt_c10000] at d_6
    refine lv_iload_n hx hb dX11_movesOf_60 rfl (lv_at hl 1 rfl) ?_
    exact kt_ri () hx hb hr hlk hS dX11_movesOf_61 hP hD (by show True; trivial)
  · have d_6 := c_6
    simp only [kt_lt, kt_le, kt_eq, kt_c0, kt_c1, kt_c2, kt_c3, kt_c4, kt_c8, kt_c9, kt_cm1, kt_c81, kt_c40, kt_c7, kt_c5, kt_c6, kt_c512, kt_c10, kt_c10000] at d_6
    refine lv_aload_n hx hb dX11_movesOf_9 rfl (lv_at hl 2 rfl) ?_
    refine va_get (D := D) (ci := 11) (C := RX11) (T := TX11) (N := 29) hx hb hts iw_X11_movesOf_X11 hown hK hP 0 rfl rfl 13 (by decide) (hts (.fieldLink RX11 30 "KingTableModel" "at" "[I") (List.mem_cons_of_mem _ (List.mem_append_left _ (List.Mem.head _)))) (fun _ h9 => h9) rfl dX11_movesOf_10 ?_
    refine lv_iload_n hx hb dX11_movesOf_13 rfl (lv_at hl 3 rfl) ?_
    have hi_1 : vp_in p1 40 := by exact kt_in (by omega) (by omega)
    refine va_iald hx hb hK hP 1 0 rfl rfl hi_1 dX11_movesOf_14 ?_
    refine lv_topi (fun a_14 ea_14 => ?_)
    have ra_14 := hfa.get (kt_in (x := p1) (n := P_) (by omega) (by omega))
    rw [← ea_14] at ra_14
    refine lv_iconst (v := (-1)) hx hb dX11_movesOf_15 (by decide) ?_
    refine lv_icmp_eq (tgt := 60) hx hb dX11_movesOf_16 (by decide) (fun c_16 => ?_) (fun c_16 => ?_)
    · have d_16 := c_16
      simp only [kt_lt, kt_le, kt_eq, kt_c0, kt_c1, kt_c2, kt_c3, kt_c4, kt_c8, kt_c9, kt_cm1, kt_c81, kt_c40, kt_c7, kt_c5, kt_c6, kt_c512, kt_c10, kt_c10000] at d_16
      refine lv_iload_n hx hb dX11_movesOf_60 rfl (lv_at hl 1 rfl) ?_
      exact kt_ri () hx hb hr hlk hS dX11_movesOf_61 hP hD (by show True; trivial)
    · have d_16 := c_16
      simp only [kt_lt, kt_le, kt_eq, kt_c0, kt_c1, kt_c2, kt_c3, kt_c4, kt_c8, kt_c9, kt_cm1, kt_c81, kt_c40, kt_c7, kt_c5, kt_c6, kt_c512, kt_c10, kt_c10000] at d_16
      have hon : 0 ≤ (fa p1.toNatClampNeg).toInt := by rw [← ea_14]; omega
      refine lv_iconst (v := 1) hx hb dX11_movesOf_19 (by decide) ?_
      refine lv_istore (lv' := [(4, .int 1), (3, .int (nI k)), (2, .int c1), (0, .ref mx), (1, .int p1)]) hx hb dX11_movesOf_20 hl (by decide) rfl (fun ls hl => ?_)
      refine kt_loop (σ := Nat × Int32) 22 5 (fun u => [(mx, .inr (11, [.int ml, .int mw, .ref ms, .int mgl, .int mhd, .int mre, .int mag, .int mkt, .int mho, .int mpc, .int msd, .int mki, .ref mk, .ref ma, .ref mo, .ref mg, .ref mm, .ref mt, .int mdn, .int mun, .ref mn, .int mtk, .ref me, .ref mq, .int msv, .ref mwo, .ref md, .ref mf, .ref mr])), (ma, .inl (cI, 40, .inl fa)), (mo, .inl (cI, 81, .inl fo)), (mg, .inl (cI, 81, .inl fr)), (mk, .inl (cI, 40, .inl fk))]) (fun u => [(4, .int (nI u.1)), (3, .int (nI k)), (2, .int u.2), (0, .ref mx), (1, .int p1)]) (fun n u => 1 ≤ u.1 ∧ u.1 ≤ 9 ∧ 9 < u.1 + n) (fun u h => by omega) (fun n_22 ih_22 u hI H locs hP hD hS ls hl => ?_) (10) (1, c1) (by show 1 ≤ 1 ∧ 1 ≤ 9 ∧ 9 < 1 + 10; exact ⟨by decide, by decide, by decide⟩) hP hD hS (lv_sub hl [0, 1, 2, 3, 4] rfl)
      obtain ⟨j, c2⟩ := u
      have hP : va_P D vwCl [(mx, .inr (11, [.int ml, .int mw, .ref ms, .int mgl, .int mhd, .int mre, .int mag, .int mkt, .int mho, .int mpc, .int msd, .int mki, .ref mk, .ref ma, .ref mo, .ref mg, .ref mm, .ref mt, .int mdn, .int mun, .ref mn, .int mtk, .ref me, .ref mq, .int msv, .ref mwo, .ref md, .ref mf, .ref mr])), (ma, .inl (cI, 40, .inl fa)), (mo, .inl (cI, 81, .inl fo)), (mg, .inl (cI, 81, .inl fr)), (mk, .inl (cI, 40, .inl fk))] H := hP
      have hD : va_D A [(mx, .inr (11, [.int ml, .int mw, .ref ms, .int mgl, .int mhd, .int mre, .int mag, .int mkt, .int mho, .int mpc, .int msd, .int mki, .ref mk, .ref ma, .ref mo, .ref mg, .ref mm, .ref mt, .int mdn, .int mun, .ref mn, .int mtk, .ref me, .ref mq, .int msv, .ref mwo, .ref md, .ref mf, .ref mr])), (ma, .inl (cI, 40, .inl fa)), (mo, .inl (cI, 81, .inl fo)), (mg, .inl (cI, 81, .inl fr)), (mk, .inl (cI, 40, .inl fk))] := hD
      have hl : lv_has ls 5 [(4, .int (nI j)), (3, .int (nI k)), (2, .int c2), (0, .ref mx), (1, .int p1)] := hl
      have hI : 1 ≤ j ∧ j ≤ 9 ∧ 9 < j + (n_22 + 1) := hI
      have hj0 := kt_nI (n := j) (by omega)
      refine lv_iload hx hb dX11_movesOf_22 (lv_at hl 0 rfl) ?_
      refine lv_bipush (v := 9) hx hb dX11_movesOf_24 (by decide) ?_
      refine lv_icmp_ge (tgt := 54) hx hb dX11_movesOf_26 (by decide) (fun c_26 => ?_) (fun c_26 => ?_)
      · have d_26 := c_26
        simp only [kt_lt, kt_le, kt_eq, kt_c0, kt_c1, kt_c2, kt_c3, kt_c4, kt_c8, kt_c9, kt_cm1, kt_c81, kt_c40, kt_c7, kt_c5, kt_c6, kt_c512, kt_c10, kt_c10000] at d_26
        refine lv_iinc (v := nI (k + 1)) (lv' := [(3, .int (nI (k + 1))), (4, .int (nI j)), (2, .int c2), (0, .ref mx), (1, .int p1)]) hx hb dX11_movesOf_54 hl (k := 1) rfl (nI_1 _) (by decide) rfl (fun ls hl => ?_)
        refine lv_goto (tgt := 4) hx hb dX11_movesOf_57 (by decide) ?_
        exact ih_4 ((k + 1), c2) (by show (k + 1) ≤ 4 ∧ 4 < (k + 1) + n_4; omega) H _ hP hD hS ls (lv_sub hl [0, 2, 3, 4] rfl)
      · have d_26 := c_26
        simp only [kt_lt, kt_le, kt_eq, kt_c0, kt_c1, kt_c2, kt_c3, kt_c4, kt_c8, kt_c9, kt_cm1, kt_c81, kt_c40, kt_c7, kt_c5, kt_c6, kt_c512, kt_c10, kt_c10000] at d_26
        refine lv_iload_n hx hb dX11_movesOf_29 rfl (lv_at hl 2 rfl) ?_
        refine lv_aload_n hx hb dX11_movesOf_30 rfl (lv_at hl 3 rfl) ?_
        refine lv_iload_n hx hb dX11_movesOf_31 rfl (lv_at hl 4 rfl) ?_
        refine lv_iload_n hx hb dX11_movesOf_32 rfl (lv_at hl 1 rfl) ?_
        refine lv_iload hx hb dX11_movesOf_33 (lv_at hl 0 rfl) ?_
        refine kt_pi (wc := [(mx, .inr (11, [.int ml, .int mw, .ref ms, .int mgl, .int mhd, .int mre, .int mag, .int mkt, .int mho, .int mpc, .int msd, .int mki, .ref mk, .ref ma, .ref mo, .ref mg, .ref mm, .ref mt, .int mdn, .int mun, .ref mn, .int mtk, .ref me, .ref mq, .int msv, .ref mwo, .ref md, .ref mf, .ref mr])), (ma, .inl (cI, 40, .inl fa)), (mo, .inl (cI, 81, .inl fo)), (mg, .inl (cI, 81, .inl fr)), (mk, .inl (cI, 40, .inl fk))]) [0, 1, 2, 3, 4] hP hD hS hA rfl (by decide) (fun hPc hDc => va_runV (As := [.int p1, .int (nI k), .int (nI j)]) (rest := [.int c2]) ⟨hx, hb, hml, hown, hts⟩ (c_X11_bar l D cI cZ cB H.size mx ms mk ma mo mg mm mt mn me mq mwo md mf mr ml mw mgl mhd mre mag mkt mho mpc msd mki mdn mun mtk msv P_ fa fo fr fk p1 (nI k) (nI j) (by first | assumption | omega | rfl | decide) (by first | assumption | omega | rfl | decide) (by first | assumption | omega | rfl | decide) (by first | assumption | omega | rfl | decide) (by first | assumption | omega | rfl | decide) (by first | assumption | omega | rfl | decide) (by first | assumption | omega | rfl | decide) (by first | assumption | omega | rfl | decide)) (cwV 3 hts gX11_movesOf_X11_bar rfl rfl rfl (by decide +kernel) ⟨Nat.le_of_ble_eq_true rfl, Nat.le_of_ble_eq_true rfl⟩) (kt_preV hN hK hPc hDc 0 (ci := 11) (q := (RX11, TX11, 29)) rfl rfl) rfl rfl hl.1 rfl (lv_room (Nat.le_of_ble_eq_true rfl)) dX11_movesOf_35 ⟨Nat.le_of_ble_eq_true rfl, Nat.le_of_ble_eq_true rfl⟩) (fun r_35 _ H locs hw_35 hP hS => ?_)
        refine kt_join (σ := Int32) 46 5 (fun u => [(mx, .inr (11, [.int ml, .int mw, .ref ms, .int mgl, .int mhd, .int mre, .int mag, .int mkt, .int mho, .int mpc, .int msd, .int mki, .ref mk, .ref ma, .ref mo, .ref mg, .ref mm, .ref mt, .int mdn, .int mun, .ref mn, .int mtk, .ref me, .ref mq, .int msv, .ref mwo, .ref md, .ref mf, .ref mr])), (ma, .inl (cI, 40, .inl fa)), (mo, .inl (cI, 81, .inl fo)), (mg, .inl (cI, 81, .inl fr)), (mk, .inl (cI, 40, .inl fk))]) (fun u => [(4, .int (nI j)), (3, .int (nI k)), (2, .int c2), (0, .ref mx), (1, .int p1)]) (fun u => [.int u, .int c2]) (fun u => True) (D := D) (A := A) (H0 := s.heap) (fun u hI H locs hP hD hS ls hl => ?_) (fun j_46 => ?_)
        · obtain ⟨v, rfl⟩ : ∃ z, z = u := ⟨_, rfl⟩
          have hP : va_P D vwCl [(mx, .inr (11, [.int ml, .int mw, .ref ms, .int mgl, .int mhd, .int mre, .int mag, .int mkt, .int mho, .int mpc, .int msd, .int mki, .ref mk, .ref ma, .ref mo, .ref mg, .ref mm, .ref mt, .int mdn, .int mun, .ref mn, .int mtk, .ref me, .ref mq, .int msv, .ref mwo, .ref md, .ref mf, .ref mr])), (ma, .inl (cI, 40, .inl fa)), (mo, .inl (cI, 81, .inl fo)), (mg, .inl (cI, 81, .inl fr)), (mk, .inl (cI, 40, .inl fk))] H := hP
          have hD : va_D A [(mx, .inr (11, [.int ml, .int mw, .ref ms, .int mgl, .int mhd, .int mre, .int mag, .int mkt, .int mho, .int mpc, .int msd, .int mki, .ref mk, .ref ma, .ref mo, .ref mg, .ref mm, .ref mt, .int mdn, .int mun, .ref mn, .int mtk, .ref me, .ref mq, .int msv, .ref mwo, .ref md, .ref mf, .ref mr])), (ma, .inl (cI, 40, .inl fa)), (mo, .inl (cI, 81, .inl fo)), (mg, .inl (cI, 81, .inl fr)), (mk, .inl (cI, 40, .inl fk))] := hD
          have hl : lv_has ls 5 [(4, .int (nI j)), (3, .int (nI k)), (2, .int c2), (0, .ref mx), (1, .int p1)] := hl
          refine lv_iadd hx hb dX11_movesOf_46 ?_
          refine lv_topi (fun t_46 et_46 => ?_)
          obtain ⟨k_46, hk_46, hm_46, hM_46⟩ := kt_addk et_46
          refine lv_istore_n (lv' := [(2, .int t_46), (4, .int (nI j)), (3, .int (nI k)), (0, .ref mx), (1, .int p1)]) hx hb dX11_movesOf_47 rfl hl (by decide) rfl (fun ls hl => ?_)
          refine lv_iinc (v := nI (j + 1)) (lv' := [(4, .int (nI (j + 1))), (2, .int t_46), (3, .int (nI k)), (0, .ref mx), (1, .int p1)]) hx hb dX11_movesOf_48 hl (k := 1) rfl (nI_1 _) (by decide) rfl (fun ls hl => ?_)
          refine lv_goto (tgt := 22) hx hb dX11_movesOf_51 (by decide) ?_
          exact ih_22 ((j + 1), t_46) (by show 1 ≤ (j + 1) ∧ (j + 1) ≤ 9 ∧ 9 < (j + 1) + n_22; omega) H _ hP hD hS ls (lv_sub hl [0, 2, 1, 3, 4] rfl)
        refine lv_if_ne (tgt := 45) hx hb dX11_movesOf_38 (by decide) (fun c_38 => ?_) (fun c_38 => ?_)
        · have d_38 := c_38
          simp only [kt_lt, kt_le, kt_eq, kt_c0, kt_c1, kt_c2, kt_c3, kt_c4, kt_c8, kt_c9, kt_cm1, kt_c81, kt_c40, kt_c7, kt_c5, kt_c6, kt_c512, kt_c10, kt_c10000] at d_38
          refine lv_iconst (v := 0) hx hb dX11_movesOf_45 (by decide) ?_
          exact j_46 (0 : Int32) (by trivial) H _ hP hD hS ls (lv_sub hl [0, 1, 2, 3, 4] rfl)
        · have d_38 := c_38
          simp only [kt_lt, kt_le, kt_eq, kt_c0, kt_c1, kt_c2, kt_c3, kt_c4, kt_c8, kt_c9, kt_cm1, kt_c81, kt_c40, kt_c7, kt_c5, kt_c6, kt_c512, kt_c10, kt_c10000] at d_38
          refine lv_iconst (v := 1) hx hb dX11_movesOf_41 (by decide) ?_
          refine lv_goto (tgt := 46) hx hb dX11_movesOf_42 (by decide) ?_
          exact j_46 (1 : Int32) (by trivial) H _ hP hD hS ls (lv_sub hl [0, 1, 2, 3, 4] rfl)

theorem iw_X11_canGo_X11 : ∀ w ∈ wsX110, w ∈ wsX11_canGo := fun _ h => kt_wp_X11_canGo__X110 h
set_option maxHeartbeats 4000000 in
set_option maxRecDepth 100000 in
theorem c_X11_canGo (l : Launch) (D : va_G) (cI cZ cB : ClassId) (sz : Nat) (mx : Nat) (ms : Nat) (mk : Nat) (ma : Nat) (mo : Nat) (mg : Nat) (mm : Nat) (mt : Nat) (mn : Nat) (me : Nat) (mq : Nat) (mwo : Nat) (md : Nat) (mf : Nat) (mr : Nat) (ml : Int32) (mw : Int32) (mgl : Int32) (mhd : Int32) (mre : Int32) (mag : Int32) (mkt : Int32) (mho : Int32) (mpc : Int32) (msd : Int32) (mki : Int32) (mdn : Int32) (mun : Int32) (mtk : Int32) (msv : Int32) (P_ : Nat) (fa : Nat → Int32) (fo : Nat → Int32) (fr : Nat → Int32) (fk : Nat → Int32) (p1 : Int32) (hml_ : 2 ≤ ml.toInt ∧ ml.toInt ≤ 9) (hmw : 2 ≤ mw.toInt ∧ mw.toInt ≤ 9) (hpc : (P_ : Int) = mpc.toInt ∧ P_ ≤ 40) (hfa : kt_r fa P_ (-1) (ml.toInt * mw.toInt - 1)) (hfo : kt_r fo 81 (-1) ((P_ : Int) - 1)) : kt_Mi l yX11_canGo wsX11_canGo { frames := 3, cells := 0, slots := 0, locals := 75 } D (kt_ty cI cZ cB) [.ref mx, .int p1] sz [(mx, .inr (11, [.int ml, .int mw, .ref ms, .int mgl, .int mhd, .int mre, .int mag, .int mkt, .int mho, .int mpc, .int msd, .int mki, .ref mk, .ref ma, .ref mo, .ref mg, .ref mm, .ref mt, .int mdn, .int mun, .ref mn, .int mtk, .ref me, .ref mq, .int msv, .ref mwo, .ref md, .ref mf, .ref mr])), (ma, .inl (cI, 40, .inl fa)), (mo, .inl (cI, 81, .inl fo)), (mg, .inl (cI, 81, .inl fr)), (mk, .inl (cI, 40, .inl fk))] (fun (r : Int32) (u : Unit) => 0 ≤ r.toInt ∧ r.toInt ≤ 1) (fun (u : Unit) => [(mx, .inr (11, [.int ml, .int mw, .ref ms, .int mgl, .int mhd, .int mre, .int mag, .int mkt, .int mho, .int mpc, .int msd, .int mki, .ref mk, .ref ma, .ref mo, .ref mg, .ref mm, .ref mt, .int mdn, .int mun, .ref mn, .int mtk, .ref me, .ref mq, .int msv, .ref mwo, .ref md, .ref mf, .ref mr])), (ma, .inl (cI, 40, .inl fa)), (mo, .inl (cI, 81, .inl fo)), (mg, .inl (cI, 81, .inl fr)), (mk, .inl (cI, 40, .inl fk))]) 0 0 := by
  refine kt_Mi.of (cc := cX11_canGo) (maxL := 4) (ret := some .boolean) (by decide) rfl (Nat.le_of_ble_eq_true rfl) ?_
  intro p e s m below meth c A ls H hAt hP hD hS hl
  obtain ⟨hx, hb, hr, hml, hown, hts, hN, hK, hlk, hnm, hA⟩ := hAt
  have hl : lv_has ls 4 [(0, .ref mx), (1, .int p1)] := hl
  have hown : s.vm.findClass RX11 = some m.cls := hown
  refine lv_iconst (v := 0) hx hb dX11_canGo_0 (by decide) ?_
  refine lv_istore_n (lv' := [(2, .int 0), (0, .ref mx), (1, .int p1)]) hx hb dX11_canGo_1 rfl hl (by decide) rfl (fun ls hl => ?_)
  refine lv_iconst (v := 0) hx hb dX11_canGo_2 (by decide) ?_
  refine lv_istore_n (lv' := [(3, .int 0), (2, .int 0), (0, .ref mx), (1, .int p1)]) hx hb dX11_canGo_3 rfl hl (by decide) rfl (fun ls hl => ?_)
  refine kt_loop (σ := Nat × Int32) 4 4 (fun u => [(mx, .inr (11, [.int ml, .int mw, .ref ms, .int mgl, .int mhd, .int mre, .int mag, .int mkt, .int mho, .int mpc, .int msd, .int mki, .ref mk, .ref ma, .ref mo, .ref mg, .ref mm, .ref mt, .int mdn, .int mun, .ref mn, .int mtk, .ref me, .ref mq, .int msv, .ref mwo, .ref md, .ref mf, .ref mr])), (ma, .inl (cI, 40, .inl fa)), (mo, .inl (cI, 81, .inl fo)), (mg, .inl (cI, 81, .inl fr)), (mk, .inl (cI, 40, .inl fk))]) (fun u => [(3, .int (nI u.1)), (2, .int u.2), (0, .ref mx), (1, .int p1)]) (fun n u => (u.1 ≤ 40 ∧ 40 < u.1 + n) ∧ 0 ≤ u.2.toInt ∧ u.2.toInt ≤ 1) (fun u h => by omega) (fun n_4 ih_4 u hI H locs hP hD hS ls hl => ?_) (41) (0, (0 : Int32)) (by show (0 ≤ 40 ∧ 40 < 0 + 41) ∧ 0 ≤ (0 : Int32).toInt ∧ (0 : Int32).toInt ≤ 1; exact ⟨by decide, by decide⟩) hP hD hS (lv_sub hl [0, 1, 2, 3] rfl)
  obtain ⟨k, cz⟩ := u
  have hP : va_P D vwCl [(mx, .inr (11, [.int ml, .int mw, .ref ms, .int mgl, .int mhd, .int mre, .int mag, .int mkt, .int mho, .int mpc, .int msd, .int mki, .ref mk, .ref ma, .ref mo, .ref mg, .ref mm, .ref mt, .int mdn, .int mun, .ref mn, .int mtk, .ref me, .ref mq, .int msv, .ref mwo, .ref md, .ref mf, .ref mr])), (ma, .inl (cI, 40, .inl fa)), (mo, .inl (cI, 81, .inl fo)), (mg, .inl (cI, 81, .inl fr)), (mk, .inl (cI, 40, .inl fk))] H := hP
  have hD : va_D A [(mx, .inr (11, [.int ml, .int mw, .ref ms, .int mgl, .int mhd, .int mre, .int mag, .int mkt, .int mho, .int mpc, .int msd, .int mki, .ref mk, .ref ma, .ref mo, .ref mg, .ref mm, .ref mt, .int mdn, .int mun, .ref mn, .int mtk, .ref me, .ref mq, .int msv, .ref mwo, .ref md, .ref mf, .ref mr])), (ma, .inl (cI, 40, .inl fa)), (mo, .inl (cI, 81, .inl fo)), (mg, .inl (cI, 81, .inl fr)), (mk, .inl (cI, 40, .inl fk))] := hD
  have hl : lv_has ls 4 [(3, .int (nI k)), (2, .int cz), (0, .ref mx), (1, .int p1)] := hl
  have hI : (k ≤ 40 ∧ 40 < k + (n_4 + 1)) ∧ 0 ≤ cz.toInt ∧ cz.toInt ≤ 1 := hI
  obtain ⟨hkb, hcz⟩ := hI
  have hk0 := kt_nI (n := k) (by omega)
  refine lv_iload_n hx hb dX11_canGo_4 rfl (lv_at hl 0 rfl) ?_
  refine lv_aload_n hx hb dX11_canGo_5 rfl (lv_at hl 2 rfl) ?_
  refine va_get (D := D) (ci := 11) (C := RX11) (T := TX11) (N := 29) hx hb hts iw_X11_canGo_X11 hown hK hP 0 rfl rfl 9 (by decide) (hts (.fieldLink RX11 103 "KingTableModel" "pieces" "I") (kt_wp_X11_canGo__X11_canGo_r1 kt_wm0)) (fun _ h9 => h9) rfl dX11_canGo_6 ?_
  refine lv_icmp_ge (tgt := 45) hx hb dX11_canGo_9 (by decide) (fun c_9 => ?_) (fun c_9 => ?_)
  · have d_9 := c_9
    simp only [kt_lt, kt_le, kt_eq, kt_c0, kt_c1, kt_c2, kt_c3, kt_c4, kt_c8, kt_c9, kt_cm1, kt_c81, kt_c40, kt_c7, kt_c5, kt_c6, kt_c512, kt_c10, kt_c10000] at d_9
    refine lv_iload_n hx hb dX11_canGo_45 rfl (lv_at hl 1 rfl) ?_
    exact kt_rz () hx hb hr hlk hS dX11_canGo_46 hP hD (by show 0 ≤ cz.toInt ∧ cz.toInt ≤ 1; exact hcz) (by exact kt_z hcz.1 hcz.2)
  · have d_9 := c_9
    simp only [kt_lt, kt_le, kt_eq, kt_c0, kt_c1, kt_c2, kt_c3, kt_c4, kt_c8, kt_c9, kt_cm1, kt_c81, kt_c40, kt_c7, kt_c5, kt_c6, kt_c512, kt_c10, kt_c10000] at d_9
    refine lv_iload_n hx hb dX11_canGo_12 rfl (lv_at hl 1 rfl) ?_
    refine lv_if_ne (tgt := 45) hx hb dX11_canGo_13 (by decide) (fun c_13 => ?_) (fun c_13 => ?_)
    · have d_13 := c_13
      simp only [kt_lt, kt_le, kt_eq, kt_c0, kt_c1, kt_c2, kt_c3, kt_c4, kt_c8, kt_c9, kt_cm1, kt_c81, kt_c40, kt_c7, kt_c5, kt_c6, kt_c512, kt_c10, kt_c10000] at d_13
      refine lv_iload_n hx hb dX11_canGo_45 rfl (lv_at hl 1 rfl) ?_
      exact kt_rz () hx hb hr hlk hS dX11_canGo_46 hP hD (by show 0 ≤ cz.toInt ∧ cz.toInt ≤ 1; exact hcz) (by exact kt_z hcz.1 hcz.2)
    · have d_13 := c_13
      simp only [kt_lt, kt_le, kt_eq, kt_c0, kt_c1, kt_c2, kt_c3, kt_c4, kt_c8, kt_c9, kt_cm1, kt_c81, kt_c40, kt_c7, kt_c5, kt_c6, kt_c512, kt_c10, kt_c10000] at d_13
      refine lv_aload_n hx hb dX11_canGo_16 rfl (lv_at hl 2 rfl) ?_
      refine lv_iload_n hx hb dX11_canGo_17 rfl (lv_at hl 0 rfl) ?_
      refine kt_pi (wc := [(mx, .inr (11, [.int ml, .int mw, .ref ms, .int mgl, .int mhd, .int mre, .int mag, .int mkt, .int mho, .int mpc, .int msd, .int mki, .ref mk, .ref ma, .ref mo, .ref mg, .ref mm, .ref mt, .int mdn, .int mun, .ref mn, .int mtk, .ref me, .ref mq, .int msv, .ref mwo, .ref md, .ref mf, .ref mr])), (mk, .inl (cI, 40, .inl fk))]) [0, 4] hP hD hS hA rfl (by decide) (fun hPc hDc => va_runV (As := [.int (nI k)]) (rest := []) ⟨hx, hb, hml, hown, hts⟩ (c_X11_sideOf l D cI cZ cB H.size mx ms mk ma mo mg mm mt mn me mq mwo md mf mr ml mw mgl mhd mre mag mkt mho mpc msd mki mdn mun mtk msv fk (nI k) (by first | assumption | omega | rfl | decide)) (cwV 1 hts gX11_canGo_X11_sideOf rfl rfl rfl (by decide +kernel) ⟨Nat.le_of_ble_eq_true rfl, Nat.le_of_ble_eq_true rfl⟩) (kt_preV hN hK hPc hDc 0 (ci := 11) (q := (RX11, TX11, 29)) rfl rfl) rfl rfl hl.1 rfl (lv_room (Nat.le_of_ble_eq_true rfl)) dX11_canGo_18 ⟨Nat.le_of_ble_eq_true rfl, Nat.le_of_ble_eq_true rfl⟩) (fun r_18 _ H locs hw_18 hP hS => ?_)
      refine lv_iload_n hx hb dX11_canGo_21 rfl (lv_at hl 3 rfl) ?_
      refine kt_join (σ := Int32) 38 4 (fun u => [(mx, .inr (11, [.int ml, .int mw, .ref ms, .int mgl, .int mhd, .int mre, .int mag, .int mkt, .int mho, .int mpc, .int msd, .int mki, .ref mk, .ref ma, .ref mo, .ref mg, .ref mm, .ref mt, .int mdn, .int mun, .ref mn, .int mtk, .ref me, .ref mq, .int msv, .ref mwo, .ref md, .ref mf, .ref mr])), (ma, .inl (cI, 40, .inl fa)), (mo, .inl (cI, 81, .inl fo)), (mg, .inl (cI, 81, .inl fr)), (mk, .inl (cI, 40, .inl fk))]) (fun u => [(3, .int (nI k)), (2, .int cz), (0, .ref mx), (1, .int p1)]) (fun u => [.int u]) (fun u => 0 ≤ u.toInt ∧ u.toInt ≤ 1) (D := D) (A := A) (H0 := s.heap) (fun u hI H locs hP hD hS ls hl => ?_) (fun j_38 => ?_)
      · obtain ⟨v, rfl⟩ : ∃ z, z = u := ⟨_, rfl⟩
        have hP : va_P D vwCl [(mx, .inr (11, [.int ml, .int mw, .ref ms, .int mgl, .int mhd, .int mre, .int mag, .int mkt, .int mho, .int mpc, .int msd, .int mki, .ref mk, .ref ma, .ref mo, .ref mg, .ref mm, .ref mt, .int mdn, .int mun, .ref mn, .int mtk, .ref me, .ref mq, .int msv, .ref mwo, .ref md, .ref mf, .ref mr])), (ma, .inl (cI, 40, .inl fa)), (mo, .inl (cI, 81, .inl fo)), (mg, .inl (cI, 81, .inl fr)), (mk, .inl (cI, 40, .inl fk))] H := hP
        have hD : va_D A [(mx, .inr (11, [.int ml, .int mw, .ref ms, .int mgl, .int mhd, .int mre, .int mag, .int mkt, .int mho, .int mpc, .int msd, .int mki, .ref mk, .ref ma, .ref mo, .ref mg, .ref mm, .ref mt, .int mdn, .int mun, .ref mn, .int mtk, .ref me, .ref mq, .int msv, .ref mwo, .ref md, .ref mf, .ref mr])), (ma, .inl (cI, 40, .inl fa)), (mo, .inl (cI, 81, .inl fo)), (mg, .inl (cI, 81, .inl fr)), (mk, .inl (cI, 40, .inl fk))] := hD
        have hl : lv_has ls 4 [(3, .int (nI k)), (2, .int cz), (0, .ref mx), (1, .int p1)] := hl
        have hI : 0 ≤ v.toInt ∧ v.toInt ≤ 1 := hI
        have hv := hI
        refine lv_istore_n (lv' := [(2, .int v), (3, .int (nI k)), (0, .ref mx), (1, .int p1)]) hx hb dX11_canGo_38 rfl hl (by decide) rfl (fun ls hl => ?_)
        refine lv_iinc (v := nI (k + 1)) (lv' := [(3, .int (nI (k + 1))), (2, .int v), (0, .ref mx), (1, .int p1)]) hx hb dX11_canGo_39 hl (k := 1) rfl (nI_1 _) (by decide) rfl (fun ls hl => ?_)
        refine lv_goto (tgt := 4) hx hb dX11_canGo_42 (by decide) ?_
        exact ih_4 ((k + 1), v) (by show ((k + 1) ≤ 40 ∧ 40 < (k + 1) + n_4) ∧ 0 ≤ v.toInt ∧ v.toInt ≤ 1; exact ⟨by omega, hv⟩) H _ hP hD hS ls (lv_sub hl [0, 1, 2, 3] rfl)
      refine lv_icmp_ne (tgt := 37) hx hb dX11_canGo_22 (by decide) (fun c_22 => ?_) (fun c_22 => ?_)
      · have d_22 := c_22
        simp only [kt_lt, kt_le, kt_eq, kt_c0, kt_c1, kt_c2, kt_c3, kt_c4, kt_c8, kt_c9, kt_cm1, kt_c81, kt_c40, kt_c7, kt_c5, kt_c6, kt_c512, kt_c10, kt_c10000] at d_22
        refine lv_iconst (v := 0) hx hb dX11_canGo_37 (by decide) ?_
        exact j_38 (0 : Int32) (by show 0 ≤ (0 : Int32).toInt ∧ (0 : Int32).toInt ≤ 1; decide) H _ hP hD hS ls (lv_sub hl [0, 1, 2, 3] rfl)
      · have d_22 := c_22
        simp only [kt_lt, kt_le, kt_eq, kt_c0, kt_c1, kt_c2, kt_c3, kt_c4, kt_c8, kt_c9, kt_cm1, kt_c81, kt_c40, kt_c7, kt_c5, kt_c6, kt_c512, kt_c10, kt_c10000] at d_22
        refine lv_aload_n hx hb dX11_canGo_25 rfl (lv_at hl 2 rfl) ?_
        refine lv_iload_n hx hb dX11_canGo_26 rfl (lv_at hl 0 rfl) ?_
        refine kt_pi (wc := [(mx, .inr (11, [.int ml, .int mw, .ref ms, .int mgl, .int mhd, .int mre, .int mag, .int mkt, .int mho, .int mpc, .int msd, .int mki, .ref mk, .ref ma, .ref mo, .ref mg, .ref mm, .ref mt, .int mdn, .int mun, .ref mn, .int mtk, .ref me, .ref mq, .int msv, .ref mwo, .ref md, .ref mf, .ref mr])), (ma, .inl (cI, 40, .inl fa)), (mo, .inl (cI, 81, .inl fo)), (mg, .inl (cI, 81, .inl fr)), (mk, .inl (cI, 40, .inl fk))]) [0, 1, 2, 3, 4] hP hD hS hA rfl (by decide) (fun hPc hDc => va_runV (As := [.int (nI k)]) (rest := []) ⟨hx, hb, hml, hown, hts⟩ (c_X11_movesOf l D cI cZ cB H.size mx ms mk ma mo mg mm mt mn me mq mwo md mf mr ml mw mgl mhd mre mag mkt mho mpc msd mki mdn mun mtk msv P_ fa fo fr fk (nI k) (by first | assumption | omega | rfl | decide) (by first | assumption | omega | rfl | decide) (by first | assumption | omega | rfl | decide) (by first | assumption | omega | rfl | decide) (by first | assumption | omega | rfl | decide) (by first | assumption | omega | rfl | decide)) (cwV 1 hts gX11_canGo_X11_movesOf rfl rfl rfl (by decide +kernel) ⟨Nat.le_of_ble_eq_true rfl, Nat.le_of_ble_eq_true rfl⟩) (kt_preV hN hK hPc hDc 0 (ci := 11) (q := (RX11, TX11, 29)) rfl rfl) rfl rfl hl.1 rfl (lv_room (Nat.le_of_ble_eq_true rfl)) dX11_canGo_27 ⟨Nat.le_of_ble_eq_true rfl, Nat.le_of_ble_eq_true rfl⟩) (fun r_27 _ H locs hw_27 hP hS => ?_)
        refine lv_if_le (tgt := 37) hx hb dX11_canGo_30 (by decide) (fun c_30 => ?_) (fun c_30 => ?_)
        · have d_30 := c_30
          simp only [kt_lt, kt_le, kt_eq, kt_c0, kt_c1, kt_c2, kt_c3, kt_c4, kt_c8, kt_c9, kt_cm1, kt_c81, kt_c40, kt_c7, kt_c5, kt_c6, kt_c512, kt_c10, kt_c10000] at d_30
          refine lv_iconst (v := 0) hx hb dX11_canGo_37 (by decide) ?_
          exact j_38 (0 : Int32) (by show 0 ≤ (0 : Int32).toInt ∧ (0 : Int32).toInt ≤ 1; decide) H _ hP hD hS ls (lv_sub hl [0, 1, 2, 3] rfl)
        · have d_30 := c_30
          simp only [kt_lt, kt_le, kt_eq, kt_c0, kt_c1, kt_c2, kt_c3, kt_c4, kt_c8, kt_c9, kt_cm1, kt_c81, kt_c40, kt_c7, kt_c5, kt_c6, kt_c512, kt_c10, kt_c10000] at d_30
          refine lv_iconst (v := 1) hx hb dX11_canGo_33 (by decide) ?_
          refine lv_goto (tgt := 38) hx hb dX11_canGo_34 (by decide) ?_
          exact j_38 (1 : Int32) (by show 0 ≤ (1 : Int32).toInt ∧ (1 : Int32).toInt ≤ 1; decide) H _ hP hD hS ls (lv_sub hl [0, 1, 2, 3] rfl)

theorem iw_X11_isFoe_X11 : ∀ w ∈ wsX110, w ∈ wsX11_isFoe := fun _ h => kt_wp_X11_isFoe__X110 h
set_option maxHeartbeats 4000000 in
set_option maxRecDepth 100000 in
theorem c_X11_isFoe (l : Launch) (D : va_G) (cI cZ cB : ClassId) (sz : Nat) (mx : Nat) (ms : Nat) (mk : Nat) (ma : Nat) (mo : Nat) (mg : Nat) (mm : Nat) (mt : Nat) (mn : Nat) (me : Nat) (mq : Nat) (mwo : Nat) (md : Nat) (mf : Nat) (mr : Nat) (ml : Int32) (mw : Int32) (mgl : Int32) (mhd : Int32) (mre : Int32) (mag : Int32) (mkt : Int32) (mho : Int32) (mpc : Int32) (msd : Int32) (mki : Int32) (mdn : Int32) (mun : Int32) (mtk : Int32) (msv : Int32) (P_ : Nat) (fo : Nat → Int32) (fr : Nat → Int32) (fk : Nat → Int32) (p1 : Int32) (p2 : Int32) (hpc : (P_ : Int) = mpc.toInt ∧ P_ ≤ 40) (hfo : kt_r fo 81 (-1) ((P_ : Int) - 1)) (hp1 : 0 ≤ p1.toInt ∧ p1.toInt < (P_ : Int)) (hp2 : -1 ≤ p2.toInt ∧ p2.toInt ≤ 80) : kt_Mi l yX11_isFoe wsX11_isFoe { frames := 1, cells := 0, slots := 0, locals := 21 } D (kt_ty cI cZ cB) [.ref mx, .int p1, .int p2] sz [(mx, .inr (11, [.int ml, .int mw, .ref ms, .int mgl, .int mhd, .int mre, .int mag, .int mkt, .int mho, .int mpc, .int msd, .int mki, .ref mk, .ref ma, .ref mo, .ref mg, .ref mm, .ref mt, .int mdn, .int mun, .ref mn, .int mtk, .ref me, .ref mq, .int msv, .ref mwo, .ref md, .ref mf, .ref mr])), (mo, .inl (cI, 81, .inl fo)), (mg, .inl (cI, 81, .inl fr)), (mk, .inl (cI, 40, .inl fk))] (fun (r : Int32) (u : Unit) => 0 ≤ r.toInt ∧ r.toInt ≤ 1) (fun (u : Unit) => [(mx, .inr (11, [.int ml, .int mw, .ref ms, .int mgl, .int mhd, .int mre, .int mag, .int mkt, .int mho, .int mpc, .int msd, .int mki, .ref mk, .ref ma, .ref mo, .ref mg, .ref mm, .ref mt, .int mdn, .int mun, .ref mn, .int mtk, .ref me, .ref mq, .int msv, .ref mwo, .ref md, .ref mf, .ref mr])), (mo, .inl (cI, 81, .inl fo)), (mg, .inl (cI, 81, .inl fr)), (mk, .inl (cI, 40, .inl fk))]) 0 0 := by
  refine kt_Mi.of (cc := cX11_isFoe) (maxL := 3) (ret := some .boolean) (by decide) rfl (Nat.le_of_ble_eq_true rfl) ?_
  intro p e s m below meth c A ls H hAt hP hD hS hl
  obtain ⟨hx, hb, hr, hml, hown, hts, hN, hK, hlk, hnm, hA⟩ := hAt
  have hl : lv_has ls 3 [(0, .ref mx), (1, .int p1), (2, .int p2)] := hl
  have hown : s.vm.findClass RX11 = some m.cls := hown
  refine lv_iload_n hx hb dX11_isFoe_0 rfl (lv_at hl 2 rfl) ?_
  refine lv_iconst (v := (-1)) hx hb dX11_isFoe_1 (by decide) ?_
  refine lv_icmp_ne (tgt := 7) hx hb dX11_isFoe_2 (by decide) (fun c_2 => ?_) (fun c_2 => ?_)
  · have d_2 := c_2
    simp only [kt_lt, kt_le, kt_eq, kt_c0, kt_c1, kt_c2, kt_c3, kt_c4, kt_c8, kt_c9, kt_cm1, kt_c81, kt_c40, kt_c7, kt_c5, kt_c6, kt_c512, kt_c10, kt_c10000] at d_2
    refine lv_aload_n hx hb dX11_isFoe_7 rfl (lv_at hl 0 rfl) ?_
    refine va_get (D := D) (ci := 11) (C := RX11) (T := TX11) (N := 29) hx hb hts iw_X11_isFoe_X11 hown hK hP 0 rfl rfl 14 (by decide) (hts (.fieldLink RX11 33 "KingTableModel" "on" "[I") (List.mem_cons_of_mem _ (List.mem_append_left _ (List.Mem.head _)))) (fun _ h9 => h9) rfl dX11_isFoe_8 ?_
    refine lv_iload_n hx hb dX11_isFoe_11 rfl (lv_at hl 2 rfl) ?_
    have hi_1 : vp_in p2 81 := by exact kt_in (by omega) (by omega)
    refine va_iald hx hb hK hP 1 0 rfl rfl hi_1 dX11_isFoe_12 ?_
    refine lv_topi (fun a_12 ea_12 => ?_)
    have ra_12 := hfo.get hi_1
    rw [← ea_12] at ra_12
    refine lv_iconst (v := (-1)) hx hb dX11_isFoe_13 (by decide) ?_
    refine lv_icmp_ne (tgt := 34) hx hb dX11_isFoe_14 (by decide) (fun c_14 => ?_) (fun c_14 => ?_)
    · have d_14 := c_14
      simp only [kt_lt, kt_le, kt_eq, kt_c0, kt_c1, kt_c2, kt_c3, kt_c4, kt_c8, kt_c9, kt_cm1, kt_c81, kt_c40, kt_c7, kt_c5, kt_c6, kt_c512, kt_c10, kt_c10000] at d_14
      refine lv_aload_n hx hb dX11_isFoe_34 rfl (lv_at hl 0 rfl) ?_
      refine lv_aload_n hx hb dX11_isFoe_35 rfl (lv_at hl 0 rfl) ?_
      refine va_get (D := D) (ci := 11) (C := RX11) (T := TX11) (N := 29) hx hb hts iw_X11_isFoe_X11 hown hK hP 0 rfl rfl 14 (by decide) (hts (.fieldLink RX11 33 "KingTableModel" "on" "[I") (List.mem_cons_of_mem _ (List.mem_append_left _ (List.Mem.head _)))) (fun _ h9 => h9) rfl dX11_isFoe_36 ?_
      refine lv_iload_n hx hb dX11_isFoe_39 rfl (lv_at hl 2 rfl) ?_
      have hi_2 : vp_in p2 81 := by exact kt_in (by omega) (by omega)
      refine va_iald hx hb hK hP 1 0 rfl rfl hi_2 dX11_isFoe_40 ?_
      refine lv_topi (fun a_40 ea_40 => ?_)
      have ra_40 := hfo.get hi_2
      rw [← ea_40] at ra_40
      have hq40 : a_40.toInt = a_12.toInt := by rw [ea_40, ea_12]
      refine kt_pi (wc := [(mx, .inr (11, [.int ml, .int mw, .ref ms, .int mgl, .int mhd, .int mre, .int mag, .int mkt, .int mho, .int mpc, .int msd, .int mki, .ref mk, .ref ma, .ref mo, .ref mg, .ref mm, .ref mt, .int mdn, .int mun, .ref mn, .int mtk, .ref me, .ref mq, .int msv, .ref mwo, .ref md, .ref mf, .ref mr])), (mk, .inl (cI, 40, .inl fk))]) [0, 3] hP hD hS hA rfl (by decide) (fun hPc hDc => va_runV (As := [.int a_40]) (rest := []) ⟨hx, hb, hml, hown, hts⟩ (c_X11_sideOf l D cI cZ cB H.size mx ms mk ma mo mg mm mt mn me mq mwo md mf mr ml mw mgl mhd mre mag mkt mho mpc msd mki mdn mun mtk msv fk a_40 (by first | assumption | omega | rfl | decide)) (cwV 1 hts gX11_isFoe_X11_sideOf rfl rfl rfl (by decide +kernel) ⟨Nat.le_of_ble_eq_true rfl, Nat.le_of_ble_eq_true rfl⟩) (kt_preV hN hK hPc hDc 0 (ci := 11) (q := (RX11, TX11, 29)) rfl rfl) rfl rfl hl.1 rfl (lv_room (Nat.le_of_ble_eq_true rfl)) dX11_isFoe_41 ⟨Nat.le_of_ble_eq_true rfl, Nat.le_of_ble_eq_true rfl⟩) (fun r_41 _ H locs hw_41 hP hS => ?_)
      refine lv_aload_n hx hb dX11_isFoe_44 rfl (lv_at hl 0 rfl) ?_
      refine lv_iload_n hx hb dX11_isFoe_45 rfl (lv_at hl 1 rfl) ?_
      refine kt_pi (wc := [(mx, .inr (11, [.int ml, .int mw, .ref ms, .int mgl, .int mhd, .int mre, .int mag, .int mkt, .int mho, .int mpc, .int msd, .int mki, .ref mk, .ref ma, .ref mo, .ref mg, .ref mm, .ref mt, .int mdn, .int mun, .ref mn, .int mtk, .ref me, .ref mq, .int msv, .ref mwo, .ref md, .ref mf, .ref mr])), (mk, .inl (cI, 40, .inl fk))]) [0, 3] hP hD hS hA rfl (by decide) (fun hPc hDc => va_runV (As := [.int p1]) (rest := [.int r_41]) ⟨hx, hb, hml, hown, hts⟩ (c_X11_sideOf l D cI cZ cB H.size mx ms mk ma mo mg mm mt mn me mq mwo md mf mr ml mw mgl mhd mre mag mkt mho mpc msd mki mdn mun mtk msv fk p1 (by first | assumption | omega | rfl | decide)) (cwV 1 hts gX11_isFoe_X11_sideOf rfl rfl rfl (by decide +kernel) ⟨Nat.le_of_ble_eq_true rfl, Nat.le_of_ble_eq_true rfl⟩) (kt_preV hN hK hPc hDc 0 (ci := 11) (q := (RX11, TX11, 29)) rfl rfl) rfl rfl hl.1 rfl (lv_room (Nat.le_of_ble_eq_true rfl)) dX11_isFoe_46 ⟨Nat.le_of_ble_eq_true rfl, Nat.le_of_ble_eq_true rfl⟩) (fun r_46 _ H locs hw_46 hP hS => ?_)
      refine lv_icmp_eq (tgt := 69) hx hb dX11_isFoe_49 (by decide) (fun c_49 => ?_) (fun c_49 => ?_)
      · have d_49 := c_49
        simp only [kt_lt, kt_le, kt_eq, kt_c0, kt_c1, kt_c2, kt_c3, kt_c4, kt_c8, kt_c9, kt_cm1, kt_c81, kt_c40, kt_c7, kt_c5, kt_c6, kt_c512, kt_c10, kt_c10000] at d_49
        refine lv_iconst (v := 0) hx hb dX11_isFoe_69 (by decide) ?_
        exact kt_rz () hx hb hr hlk hS dX11_isFoe_70 hP hD (by show 0 ≤ (0 : Int32).toInt ∧ (0 : Int32).toInt ≤ 1; decide) rfl
      · have d_49 := c_49
        simp only [kt_lt, kt_le, kt_eq, kt_c0, kt_c1, kt_c2, kt_c3, kt_c4, kt_c8, kt_c9, kt_cm1, kt_c81, kt_c40, kt_c7, kt_c5, kt_c6, kt_c512, kt_c10, kt_c10000] at d_49
        refine lv_aload_n hx hb dX11_isFoe_52 rfl (lv_at hl 0 rfl) ?_
        refine lv_aload_n hx hb dX11_isFoe_53 rfl (lv_at hl 0 rfl) ?_
        refine va_get (D := D) (ci := 11) (C := RX11) (T := TX11) (N := 29) hx hb hts iw_X11_isFoe_X11 hown hK hP 0 rfl rfl 14 (by decide) (hts (.fieldLink RX11 33 "KingTableModel" "on" "[I") (List.mem_cons_of_mem _ (List.mem_append_left _ (List.Mem.head _)))) (fun _ h9 => h9) rfl dX11_isFoe_54 ?_
        refine lv_iload_n hx hb dX11_isFoe_57 rfl (lv_at hl 2 rfl) ?_
        have hi_3 : vp_in p2 81 := by exact kt_in (by omega) (by omega)
        refine va_iald hx hb hK hP 1 0 rfl rfl hi_3 dX11_isFoe_58 ?_
        refine lv_topi (fun a_58 ea_58 => ?_)
        have ra_58 := hfo.get hi_3
        rw [← ea_58] at ra_58
        have hq58 : a_58.toInt = a_12.toInt := by rw [ea_58, ea_12]
        refine kt_pi (wc := [(mx, .inr (11, [.int ml, .int mw, .ref ms, .int mgl, .int mhd, .int mre, .int mag, .int mkt, .int mho, .int mpc, .int msd, .int mki, .ref mk, .ref ma, .ref mo, .ref mg, .ref mm, .ref mt, .int mdn, .int mun, .ref mn, .int mtk, .ref me, .ref mq, .int msv, .ref mwo, .ref md, .ref mf, .ref mr])), (mk, .inl (cI, 40, .inl fk))]) [0, 3] hP hD hS hA rfl (by decide) (fun hPc hDc => va_runV (As := [.int a_58]) (rest := []) ⟨hx, hb, hml, hown, hts⟩ (c_X11_takes l D cI cZ cB H.size mx ms mk ma mo mg mm mt mn me mq mwo md mf mr ml mw mgl mhd mre mag mkt mho mpc msd mki mdn mun mtk msv fk a_58 (by first | assumption | omega | rfl | decide)) (cwV 1 hts gX11_isFoe_X11_takes rfl rfl rfl (by decide +kernel) ⟨Nat.le_of_ble_eq_true rfl, Nat.le_of_ble_eq_true rfl⟩) (kt_preV hN hK hPc hDc 0 (ci := 11) (q := (RX11, TX11, 29)) rfl rfl) rfl rfl hl.1 rfl (lv_room (Nat.le_of_ble_eq_true rfl)) dX11_isFoe_59 ⟨Nat.le_of_ble_eq_true rfl, Nat.le_of_ble_eq_true rfl⟩) (fun r_59 _ H locs hw_59 hP hS => ?_)
        refine lv_if_eq (tgt := 69) hx hb dX11_isFoe_62 (by decide) (fun c_62 => ?_) (fun c_62 => ?_)
        · have d_62 := c_62
          simp only [kt_lt, kt_le, kt_eq, kt_c0, kt_c1, kt_c2, kt_c3, kt_c4, kt_c8, kt_c9, kt_cm1, kt_c81, kt_c40, kt_c7, kt_c5, kt_c6, kt_c512, kt_c10, kt_c10000] at d_62
          refine lv_iconst (v := 0) hx hb dX11_isFoe_69 (by decide) ?_
          exact kt_rz () hx hb hr hlk hS dX11_isFoe_70 hP hD (by show 0 ≤ (0 : Int32).toInt ∧ (0 : Int32).toInt ≤ 1; decide) rfl
        · have d_62 := c_62
          simp only [kt_lt, kt_le, kt_eq, kt_c0, kt_c1, kt_c2, kt_c3, kt_c4, kt_c8, kt_c9, kt_cm1, kt_c81, kt_c40, kt_c7, kt_c5, kt_c6, kt_c512, kt_c10, kt_c10000] at d_62
          refine lv_iconst (v := 1) hx hb dX11_isFoe_65 (by decide) ?_
          refine lv_goto (tgt := 70) hx hb dX11_isFoe_66 (by decide) ?_
          exact kt_rz () hx hb hr hlk hS dX11_isFoe_70 hP hD (by show 0 ≤ (1 : Int32).toInt ∧ (1 : Int32).toInt ≤ 1; decide) rfl
    · have d_14 := c_14
      simp only [kt_lt, kt_le, kt_eq, kt_c0, kt_c1, kt_c2, kt_c3, kt_c4, kt_c8, kt_c9, kt_cm1, kt_c81, kt_c40, kt_c7, kt_c5, kt_c6, kt_c512, kt_c10, kt_c10000] at d_14
      refine lv_aload_n hx hb dX11_isFoe_17 rfl (lv_at hl 0 rfl) ?_
      refine va_get (D := D) (ci := 11) (C := RX11) (T := TX11) (N := 29) hx hb hts iw_X11_isFoe_X11 hown hK hP 0 rfl rfl 15 (by decide) (hts (.fieldLink RX11 36 "KingTableModel" "ground" "[I") (List.mem_cons_of_mem _ (List.mem_append_left _ (List.mem_cons_of_mem _ (List.Mem.head _))))) (fun _ h9 => h9) rfl dX11_isFoe_18 ?_
      refine lv_iload_n hx hb dX11_isFoe_21 rfl (lv_at hl 2 rfl) ?_
      have hi_4 : vp_in p2 81 := by exact kt_in (by omega) (by omega)
      refine va_iald hx hb hK hP 2 0 rfl rfl hi_4 dX11_isFoe_22 ?_
      refine lv_topi (fun a_22 ea_22 => ?_)
      refine lv_bipush (v := 6) hx hb dX11_isFoe_23 (by decide) ?_
      refine lv_icmp_ne (tgt := 32) hx hb dX11_isFoe_25 (by decide) (fun c_25 => ?_) (fun c_25 => ?_)
      · have d_25 := c_25
        simp only [kt_lt, kt_le, kt_eq, kt_c0, kt_c1, kt_c2, kt_c3, kt_c4, kt_c8, kt_c9, kt_cm1, kt_c81, kt_c40, kt_c7, kt_c5, kt_c6, kt_c512, kt_c10, kt_c10000] at d_25
        refine lv_iconst (v := 0) hx hb dX11_isFoe_32 (by decide) ?_
        exact kt_rz () hx hb hr hlk hS dX11_isFoe_33 hP hD (by show 0 ≤ (0 : Int32).toInt ∧ (0 : Int32).toInt ≤ 1; decide) rfl
      · have d_25 := c_25
        simp only [kt_lt, kt_le, kt_eq, kt_c0, kt_c1, kt_c2, kt_c3, kt_c4, kt_c8, kt_c9, kt_cm1, kt_c81, kt_c40, kt_c7, kt_c5, kt_c6, kt_c512, kt_c10, kt_c10000] at d_25
        refine lv_iconst (v := 1) hx hb dX11_isFoe_28 (by decide) ?_
        refine lv_goto (tgt := 33) hx hb dX11_isFoe_29 (by decide) ?_
        exact kt_rz () hx hb hr hlk hS dX11_isFoe_33 hP hD (by show 0 ≤ (1 : Int32).toInt ∧ (1 : Int32).toInt ≤ 1; decide) rfl
  · have d_2 := c_2
    simp only [kt_lt, kt_le, kt_eq, kt_c0, kt_c1, kt_c2, kt_c3, kt_c4, kt_c8, kt_c9, kt_cm1, kt_c81, kt_c40, kt_c7, kt_c5, kt_c6, kt_c512, kt_c10, kt_c10000] at d_2
    refine lv_iconst (v := 0) hx hb dX11_isFoe_5 (by decide) ?_
    exact kt_rz () hx hb hr hlk hS dX11_isFoe_6 hP hD (by show 0 ≤ (0 : Int32).toInt ∧ (0 : Int32).toInt ≤ 1; decide) rfl

theorem iw_X11_isTaken_X11 : ∀ w ∈ wsX110, w ∈ wsX11_isTaken := fun _ h => kt_wp_X11_isTaken__X110 h
set_option maxHeartbeats 4000000 in
set_option maxRecDepth 100000 in
theorem c_X11_isTaken (l : Launch) (D : va_G) (cI cZ cB : ClassId) (sz : Nat) (mx : Nat) (ms : Nat) (mk : Nat) (ma : Nat) (mo : Nat) (mg : Nat) (mm : Nat) (mt : Nat) (mn : Nat) (me : Nat) (mq : Nat) (mwo : Nat) (md : Nat) (mf : Nat) (mr : Nat) (ml : Int32) (mw : Int32) (mgl : Int32) (mhd : Int32) (mre : Int32) (mag : Int32) (mkt : Int32) (mho : Int32) (mpc : Int32) (msd : Int32) (mki : Int32) (mdn : Int32) (mun : Int32) (mtk : Int32) (msv : Int32) (P_ : Nat) (fa : Nat → Int32) (fo : Nat → Int32) (fr : Nat → Int32) (fk : Nat → Int32) (p1 : Int32) (p2 : Int32) (hml_ : 2 ≤ ml.toInt ∧ ml.toInt ≤ 9) (hmw : 2 ≤ mw.toInt ∧ mw.toInt ≤ 9) (hpc : (P_ : Int) = mpc.toInt ∧ P_ ≤ 40) (hfa : kt_r fa P_ (-1) (ml.toInt * mw.toInt - 1)) (hfo : kt_r fo 81 (-1) ((P_ : Int) - 1)) (hp1 : 0 ≤ p1.toInt ∧ p1.toInt < (P_ : Int)) (hon : 0 ≤ (fa p1.toNatClampNeg).toInt) : kt_Mi l yX11_isTaken wsX11_isTaken { frames := 2, cells := 0, slots := 0, locals := 43 } D (kt_ty cI cZ cB) [.ref mx, .int p1, .int p2] sz [(mx, .inr (11, [.int ml, .int mw, .ref ms, .int mgl, .int mhd, .int mre, .int mag, .int mkt, .int mho, .int mpc, .int msd, .int mki, .ref mk, .ref ma, .ref mo, .ref mg, .ref mm, .ref mt, .int mdn, .int mun, .ref mn, .int mtk, .ref me, .ref mq, .int msv, .ref mwo, .ref md, .ref mf, .ref mr])), (ma, .inl (cI, 40, .inl fa)), (mo, .inl (cI, 81, .inl fo)), (mg, .inl (cI, 81, .inl fr)), (mk, .inl (cI, 40, .inl fk))] (fun (r : Int32) (u : Unit) => 0 ≤ r.toInt ∧ r.toInt ≤ 1) (fun (u : Unit) => [(mx, .inr (11, [.int ml, .int mw, .ref ms, .int mgl, .int mhd, .int mre, .int mag, .int mkt, .int mho, .int mpc, .int msd, .int mki, .ref mk, .ref ma, .ref mo, .ref mg, .ref mm, .ref mt, .int mdn, .int mun, .ref mn, .int mtk, .ref me, .ref mq, .int msv, .ref mwo, .ref md, .ref mf, .ref mr])), (ma, .inl (cI, 40, .inl fa)), (mo, .inl (cI, 81, .inl fo)), (mg, .inl (cI, 81, .inl fr)), (mk, .inl (cI, 40, .inl fk))]) 0 0 := by
  refine kt_Mi.of (cc := cX11_isTaken) (maxL := 5) (ret := some .boolean) (by decide) rfl (Nat.le_of_ble_eq_true rfl) ?_
  intro p e s m below meth c A ls H hAt hP hD hS hl
  obtain ⟨hx, hb, hr, hml, hown, hts, hN, hK, hlk, hnm, hA⟩ := hAt
  have hl : lv_has ls 5 [(0, .ref mx), (1, .int p1), (2, .int p2)] := hl
  have hown : s.vm.findClass RX11 = some m.cls := hown
  have hsb := kt_mulb hml_ hmw
  refine lv_aload_n hx hb dX11_isTaken_0 rfl (lv_at hl 0 rfl) ?_
  refine va_get (D := D) (ci := 11) (C := RX11) (T := TX11) (N := 29) hx hb hts iw_X11_isTaken_X11 hown hK hP 0 rfl rfl 12 (by decide) (hts (.fieldLink RX11 27 "KingTableModel" "kind" "[I") (kt_wp_X11_isTaken__X11_isTaken_r1 kt_wm0)) (fun _ h9 => h9) rfl dX11_isTaken_1 ?_
  refine lv_iload_n hx hb dX11_isTaken_4 rfl (lv_at hl 1 rfl) ?_
  have hi_1 : vp_in p1 40 := by exact kt_in (by omega) (by omega)
  refine va_iald hx hb hK hP 4 0 rfl rfl hi_1 dX11_isTaken_5 ?_
  refine lv_topi (fun a_5 ea_5 => ?_)
  refine lv_iconst (v := 4) hx hb dX11_isTaken_6 (by decide) ?_
  refine kt_join (σ := Unit) 46 5 (fun u => [(mx, .inr (11, [.int ml, .int mw, .ref ms, .int mgl, .int mhd, .int mre, .int mag, .int mkt, .int mho, .int mpc, .int msd, .int mki, .ref mk, .ref ma, .ref mo, .ref mg, .ref mm, .ref mt, .int mdn, .int mun, .ref mn, .int mtk, .ref me, .ref mq, .int msv, .ref mwo, .ref md, .ref mf, .ref mr])), (ma, .inl (cI, 40, .inl fa)), (mo, .inl (cI, 81, .inl fo)), (mg, .inl (cI, 81, .inl fr)), (mk, .inl (cI, 40, .inl fk))]) (fun u => [(0, .ref mx), (1, .int p1), (2, .int p2)]) (fun u => []) (fun u => True) (D := D) (A := A) (H0 := s.heap) (fun u hI H locs hP hD hS ls hl => ?_) (fun j_46 => ?_)
  · have hP : va_P D vwCl [(mx, .inr (11, [.int ml, .int mw, .ref ms, .int mgl, .int mhd, .int mre, .int mag, .int mkt, .int mho, .int mpc, .int msd, .int mki, .ref mk, .ref ma, .ref mo, .ref mg, .ref mm, .ref mt, .int mdn, .int mun, .ref mn, .int mtk, .ref me, .ref mq, .int msv, .ref mwo, .ref md, .ref mf, .ref mr])), (ma, .inl (cI, 40, .inl fa)), (mo, .inl (cI, 81, .inl fo)), (mg, .inl (cI, 81, .inl fr)), (mk, .inl (cI, 40, .inl fk))] H := hP
    have hD : va_D A [(mx, .inr (11, [.int ml, .int mw, .ref ms, .int mgl, .int mhd, .int mre, .int mag, .int mkt, .int mho, .int mpc, .int msd, .int mki, .ref mk, .ref ma, .ref mo, .ref mg, .ref mm, .ref mt, .int mdn, .int mun, .ref mn, .int mtk, .ref me, .ref mq, .int msv, .ref mwo, .ref md, .ref mf, .ref mr])), (ma, .inl (cI, 40, .inl fa)), (mo, .inl (cI, 81, .inl fo)), (mg, .inl (cI, 81, .inl fr)), (mk, .inl (cI, 40, .inl fk))] := hD
    have hl : lv_has ls 5 [(0, .ref mx), (1, .int p1), (2, .int p2)] := hl
    refine lv_iconst (v := 1) hx hb dX11_isTaken_46 (by decide) ?_
    refine lv_istore_n (lv' := [(3, .int 1), (0, .ref mx), (1, .int p1), (2, .int p2)]) hx hb dX11_isTaken_47 rfl hl (by decide) rfl (fun ls hl => ?_)
    refine lv_iconst (v := 0) hx hb dX11_isTaken_48 (by decide) ?_
    refine lv_istore (lv' := [(4, .int 0), (3, .int 1), (0, .ref mx), (1, .int p1), (2, .int p2)]) hx hb dX11_isTaken_49 hl (by decide) rfl (fun ls hl => ?_)
    refine kt_loop (σ := Nat × Int32) 51 5 (fun u => [(mx, .inr (11, [.int ml, .int mw, .ref ms, .int mgl, .int mhd, .int mre, .int mag, .int mkt, .int mho, .int mpc, .int msd, .int mki, .ref mk, .ref ma, .ref mo, .ref mg, .ref mm, .ref mt, .int mdn, .int mun, .ref mn, .int mtk, .ref me, .ref mq, .int msv, .ref mwo, .ref md, .ref mf, .ref mr])), (ma, .inl (cI, 40, .inl fa)), (mo, .inl (cI, 81, .inl fo)), (mg, .inl (cI, 81, .inl fr)), (mk, .inl (cI, 40, .inl fk))]) (fun u => [(4, .int (nI u.1)), (3, .int u.2), (0, .ref mx), (1, .int p1), (2, .int p2)]) (fun n u => (u.1 ≤ 4 ∧ 4 < u.1 + n) ∧ 0 ≤ u.2.toInt ∧ u.2.toInt ≤ 1) (fun u h => by omega) (fun n_51 ih_51 u hI H locs hP hD hS ls hl => ?_) (5) (0, (1 : Int32)) (by show (0 ≤ 4 ∧ 4 < 0 + 5) ∧ 0 ≤ (1 : Int32).toInt ∧ (1 : Int32).toInt ≤ 1; exact ⟨by decide, by decide⟩) hP hD hS (lv_sub hl [0, 1, 2, 3, 4] rfl)
    obtain ⟨k, cz⟩ := u
    have hP : va_P D vwCl [(mx, .inr (11, [.int ml, .int mw, .ref ms, .int mgl, .int mhd, .int mre, .int mag, .int mkt, .int mho, .int mpc, .int msd, .int mki, .ref mk, .ref ma, .ref mo, .ref mg, .ref mm, .ref mt, .int mdn, .int mun, .ref mn, .int mtk, .ref me, .ref mq, .int msv, .ref mwo, .ref md, .ref mf, .ref mr])), (ma, .inl (cI, 40, .inl fa)), (mo, .inl (cI, 81, .inl fo)), (mg, .inl (cI, 81, .inl fr)), (mk, .inl (cI, 40, .inl fk))] H := hP
    have hD : va_D A [(mx, .inr (11, [.int ml, .int mw, .ref ms, .int mgl, .int mhd, .int mre, .int mag, .int mkt, .int mho, .int mpc, .int msd, .int mki, .ref mk, .ref ma, .ref mo, .ref mg, .ref mm, .ref mt, .int mdn, .int mun, .ref mn, .int mtk, .ref me, .ref mq, .int msv, .ref mwo, .ref md, .ref mf, .ref mr])), (ma, .inl (cI, 40, .inl fa)), (mo, .inl (cI, 81, .inl fo)), (mg, .inl (cI, 81, .inl fr)), (mk, .inl (cI, 40, .inl fk))] := hD
    have hl : lv_has ls 5 [(4, .int (nI k)), (3, .int cz), (0, .ref mx), (1, .int p1), (2, .int p2)] := hl
    have hI : (k ≤ 4 ∧ 4 < k + (n_51 + 1)) ∧ 0 ≤ cz.toInt ∧ cz.toInt ≤ 1 := hI
    obtain ⟨hkb, hcz⟩ := hI
    have hk0 := kt_nI (n := k) (by omega)
    refine lv_iload hx hb dX11_isTaken_51 (lv_at hl 0 rfl) ?_
    refine lv_iconst (v := 4) hx hb dX11_isTaken_53 (by decide) ?_
    refine lv_icmp_ge (tgt := 94) hx hb dX11_isTaken_54 (by decide) (fun c_54 => ?_) (fun c_54 => ?_)
    · have d_54 := c_54
      simp only [kt_lt, kt_le, kt_eq, kt_c0, kt_c1, kt_c2, kt_c3, kt_c4, kt_c8, kt_c9, kt_cm1, kt_c81, kt_c40, kt_c7, kt_c5, kt_c6, kt_c512, kt_c10, kt_c10000] at d_54
      refine lv_iload_n hx hb dX11_isTaken_94 rfl (lv_at hl 1 rfl) ?_
      exact kt_rz () hx hb hr hlk hS dX11_isTaken_95 hP hD (by show 0 ≤ cz.toInt ∧ cz.toInt ≤ 1; first | exact hw_42 | exact hcz) (by exact kt_z hcz.1 hcz.2)
    · have d_54 := c_54
      simp only [kt_lt, kt_le, kt_eq, kt_c0, kt_c1, kt_c2, kt_c3, kt_c4, kt_c8, kt_c9, kt_cm1, kt_c81, kt_c40, kt_c7, kt_c5, kt_c6, kt_c512, kt_c10, kt_c10000] at d_54
      refine lv_iload_n hx hb dX11_isTaken_57 rfl (lv_at hl 1 rfl) ?_
      refine kt_join (σ := Int32) 87 5 (fun u => [(mx, .inr (11, [.int ml, .int mw, .ref ms, .int mgl, .int mhd, .int mre, .int mag, .int mkt, .int mho, .int mpc, .int msd, .int mki, .ref mk, .ref ma, .ref mo, .ref mg, .ref mm, .ref mt, .int mdn, .int mun, .ref mn, .int mtk, .ref me, .ref mq, .int msv, .ref mwo, .ref md, .ref mf, .ref mr])), (ma, .inl (cI, 40, .inl fa)), (mo, .inl (cI, 81, .inl fo)), (mg, .inl (cI, 81, .inl fr)), (mk, .inl (cI, 40, .inl fk))]) (fun u => [(4, .int (nI k)), (3, .int cz), (0, .ref mx), (1, .int p1), (2, .int p2)]) (fun u => [.int u]) (fun u => 0 ≤ u.toInt ∧ u.toInt ≤ 1) (D := D) (A := A) (H0 := s.heap) (fun u hI H locs hP hD hS ls hl => ?_) (fun j_87 => ?_)
      · obtain ⟨v, rfl⟩ : ∃ z, z = u := ⟨_, rfl⟩
        have hP : va_P D vwCl [(mx, .inr (11, [.int ml, .int mw, .ref ms, .int mgl, .int mhd, .int mre, .int mag, .int mkt, .int mho, .int mpc, .int msd, .int mki, .ref mk, .ref ma, .ref mo, .ref mg, .ref mm, .ref mt, .int mdn, .int mun, .ref mn, .int mtk, .ref me, .ref mq, .int msv, .ref mwo, .ref md, .ref mf, .ref mr])), (ma, .inl (cI, 40, .inl fa)), (mo, .inl (cI, 81, .inl fo)), (mg, .inl (cI, 81, .inl fr)), (mk, .inl (cI, 40, .inl fk))] H := hP
        have hD : va_D A [(mx, .inr (11, [.int ml, .int mw, .ref ms, .int mgl, .int mhd, .int mre, .int mag, .int mkt, .int mho, .int mpc, .int msd, .int mki, .ref mk, .ref ma, .ref mo, .ref mg, .ref mm, .ref mt, .int mdn, .int mun, .ref mn, .int mtk, .ref me, .ref mq, .int msv, .ref mwo, .ref md, .ref mf, .ref mr])), (ma, .inl (cI, 40, .inl fa)), (mo, .inl (cI, 81, .inl fo)), (mg, .inl (cI, 81, .inl fr)), (mk, .inl (cI, 40, .inl fk))] := hD
        have hl : lv_has ls 5 [(4, .int (nI k)), (3, .int cz), (0, .ref mx), (1, .int p1), (2, .int p2)] := hl
        have hI : 0 ≤ v.toInt ∧ v.toInt ≤ 1 := hI
        have hv := hI
        refine lv_istore_n (lv' := [(3, .int v), (4, .int (nI k)), (0, .ref mx), (1, .int p1), (2, .int p2)]) hx hb dX11_isTaken_87 rfl hl (by decide) rfl (fun ls hl => ?_)
        refine lv_iinc (v := nI (k + 1)) (lv' := [(4, .int (nI (k + 1))), (3, .int v), (0, .ref mx), (1, .int p1), (2, .int p2)]) hx hb dX11_isTaken_88 hl (k := 1) rfl (nI_1 _) (by decide) rfl (fun ls hl => ?_)
        refine lv_goto (tgt := 51) hx hb dX11_isTaken_91 (by decide) ?_
        exact ih_51 ((k + 1), v) (by show ((k + 1) ≤ 4 ∧ 4 < (k + 1) + n_51) ∧ 0 ≤ v.toInt ∧ v.toInt ≤ 1; exact ⟨by omega, hv⟩) H _ hP hD hS ls (lv_sub hl [0, 1, 2, 3, 4] rfl)
      refine lv_if_eq (tgt := 86) hx hb dX11_isTaken_58 (by decide) (fun c_58 => ?_) (fun c_58 => ?_)
      · have d_58 := c_58
        simp only [kt_lt, kt_le, kt_eq, kt_c0, kt_c1, kt_c2, kt_c3, kt_c4, kt_c8, kt_c9, kt_cm1, kt_c81, kt_c40, kt_c7, kt_c5, kt_c6, kt_c512, kt_c10, kt_c10000] at d_58
        refine lv_iconst (v := 0) hx hb dX11_isTaken_86 (by decide) ?_
        exact j_87 (0 : Int32) (by show 0 ≤ (0 : Int32).toInt ∧ (0 : Int32).toInt ≤ 1; decide) H _ hP hD hS ls (lv_sub hl [0, 1, 2, 3, 4] rfl)
      · have d_58 := c_58
        simp only [kt_lt, kt_le, kt_eq, kt_c0, kt_c1, kt_c2, kt_c3, kt_c4, kt_c8, kt_c9, kt_cm1, kt_c81, kt_c40, kt_c7, kt_c5, kt_c6, kt_c512, kt_c10, kt_c10000] at d_58
        refine lv_aload_n hx hb dX11_isTaken_61 rfl (lv_at hl 2 rfl) ?_
        refine lv_iload_n hx hb dX11_isTaken_62 rfl (lv_at hl 3 rfl) ?_
        refine lv_aload_n hx hb dX11_isTaken_63 rfl (lv_at hl 2 rfl) ?_
        refine lv_aload_n hx hb dX11_isTaken_64 rfl (lv_at hl 2 rfl) ?_
        refine va_get (D := D) (ci := 11) (C := RX11) (T := TX11) (N := 29) hx hb hts iw_X11_isTaken_X11 hown hK hP 0 rfl rfl 13 (by decide) (hts (.fieldLink RX11 30 "KingTableModel" "at" "[I") (kt_wp_X11_isTaken__X11_isTaken_r1 kt_wm2)) (fun _ h9 => h9) rfl dX11_isTaken_65 ?_
        refine lv_iload_n hx hb dX11_isTaken_68 rfl (lv_at hl 3 rfl) ?_
        have hi_2 : vp_in p1 40 := by exact kt_in (by omega) (by omega)
        refine va_iald hx hb hK hP 1 0 rfl rfl hi_2 dX11_isTaken_69 ?_
        refine lv_topi (fun a_69 ea_69 => ?_)
        have ra_69 := hfa.get (kt_in (x := p1) (n := P_) (by omega) (by omega))
        rw [← ea_69] at ra_69
        have hon7 := hon
        rw [← ea_69] at hon7
        refine lv_iload hx hb dX11_isTaken_70 (lv_at hl 0 rfl) ?_
        refine lv_iconst (v := 1) hx hb dX11_isTaken_72 (by decide) ?_
        refine kt_pi (wc := [(mx, .inr (11, [.int ml, .int mw, .ref ms, .int mgl, .int mhd, .int mre, .int mag, .int mkt, .int mho, .int mpc, .int msd, .int mki, .ref mk, .ref ma, .ref mo, .ref mg, .ref mm, .ref mt, .int mdn, .int mun, .ref mn, .int mtk, .ref me, .ref mq, .int msv, .ref mwo, .ref md, .ref mf, .ref mr]))]) [0] hP hD hS hA rfl (by decide) (fun hPc hDc => va_runV (As := [.int a_69, .int (nI k), .int 1]) (rest := [.int p1, .ref mx]) ⟨hx, hb, hml, hown, hts⟩ (c_X11_along l D cI cZ cB H.size mx ms mk ma mo mg mm mt mn me mq mwo md mf mr ml mw mgl mhd mre mag mkt mho mpc msd mki mdn mun mtk msv a_69 (nI k) 1 hml_ hmw (by omega) (by decide)) (cwV 3 hts gX11_isTaken_X11_along rfl rfl rfl (by decide +kernel) ⟨Nat.le_of_ble_eq_true rfl, Nat.le_of_ble_eq_true rfl⟩) (kt_preV hN hK hPc hDc 0 (ci := 11) (q := (RX11, TX11, 29)) rfl rfl) rfl rfl hl.1 rfl (lv_room (Nat.le_of_ble_eq_true rfl)) dX11_isTaken_73 ⟨Nat.le_of_ble_eq_true rfl, Nat.le_of_ble_eq_true rfl⟩) (fun r_73 _ H locs hw_73 hP hS => ?_)
        have hal : -1 ≤ r_73.toInt ∧ r_73.toInt ≤ 80 := by
          rcases Int.lt_or_le (kt_rom a_69.toInt mw.toInt ml.toInt (nI k).toInt) (1 : Int32).toInt with h | h
          · have := hw_73.2 (by omega); omega
          · have := hw_73.1 h; omega
        refine kt_pi (wc := [(mx, .inr (11, [.int ml, .int mw, .ref ms, .int mgl, .int mhd, .int mre, .int mag, .int mkt, .int mho, .int mpc, .int msd, .int mki, .ref mk, .ref ma, .ref mo, .ref mg, .ref mm, .ref mt, .int mdn, .int mun, .ref mn, .int mtk, .ref me, .ref mq, .int msv, .ref mwo, .ref md, .ref mf, .ref mr])), (mo, .inl (cI, 81, .inl fo)), (mg, .inl (cI, 81, .inl fr)), (mk, .inl (cI, 40, .inl fk))]) [0, 2, 3, 4] hP hD hS hA rfl (by decide) (fun hPc hDc => va_runV (As := [.int p1, .int r_73]) (rest := []) ⟨hx, hb, hml, hown, hts⟩ (c_X11_isFoe l D cI cZ cB H.size mx ms mk ma mo mg mm mt mn me mq mwo md mf mr ml mw mgl mhd mre mag mkt mho mpc msd mki mdn mun mtk msv P_ fo fr fk p1 r_73 (by first | assumption | omega | rfl | decide) (by first | assumption | omega | rfl | decide) (by first | assumption | omega | rfl | decide) (by first | assumption | omega | rfl | decide)) (cwV 2 hts gX11_isTaken_X11_isFoe rfl rfl rfl (by decide +kernel) ⟨Nat.le_of_ble_eq_true rfl, Nat.le_of_ble_eq_true rfl⟩) (kt_preV hN hK hPc hDc 0 (ci := 11) (q := (RX11, TX11, 29)) rfl rfl) rfl rfl hl.1 rfl (lv_room (Nat.le_of_ble_eq_true rfl)) dX11_isTaken_76 ⟨Nat.le_of_ble_eq_true rfl, Nat.le_of_ble_eq_true rfl⟩) (fun r_76 _ H locs hw_76 hP hS => ?_)
        refine lv_if_eq (tgt := 86) hx hb dX11_isTaken_79 (by decide) (fun c_79 => ?_) (fun c_79 => ?_)
        · have d_79 := c_79
          simp only [kt_lt, kt_le, kt_eq, kt_c0, kt_c1, kt_c2, kt_c3, kt_c4, kt_c8, kt_c9, kt_cm1, kt_c81, kt_c40, kt_c7, kt_c5, kt_c6, kt_c512, kt_c10, kt_c10000] at d_79
          refine lv_iconst (v := 0) hx hb dX11_isTaken_86 (by decide) ?_
          exact j_87 (0 : Int32) (by show 0 ≤ (0 : Int32).toInt ∧ (0 : Int32).toInt ≤ 1; decide) H _ hP hD hS ls (lv_sub hl [0, 1, 2, 3, 4] rfl)
        · have d_79 := c_79
          simp only [kt_lt, kt_le, kt_eq, kt_c0, kt_c1, kt_c2, kt_c3, kt_c4, kt_c8, kt_c9, kt_cm1, kt_c81, kt_c40, kt_c7, kt_c5, kt_c6, kt_c512, kt_c10, kt_c10000] at d_79
          refine lv_iconst (v := 1) hx hb dX11_isTaken_82 (by decide) ?_
          refine lv_goto (tgt := 87) hx hb dX11_isTaken_83 (by decide) ?_
          exact j_87 (1 : Int32) (by show 0 ≤ (1 : Int32).toInt ∧ (1 : Int32).toInt ≤ 1; decide) H _ hP hD hS ls (lv_sub hl [0, 1, 2, 3, 4] rfl)
  refine lv_icmp_eq (tgt := 46) hx hb dX11_isTaken_7 (by decide) (fun c_7 => ?_) (fun c_7 => ?_)
  · have d_7 := c_7
    simp only [kt_lt, kt_le, kt_eq, kt_c0, kt_c1, kt_c2, kt_c3, kt_c4, kt_c8, kt_c9, kt_cm1, kt_c81, kt_c40, kt_c7, kt_c5, kt_c6, kt_c512, kt_c10, kt_c10000] at d_7
    exact j_46 () (by trivial) H _ hP hD hS ls (lv_sub hl [0, 1, 2] rfl)
  · have d_7 := c_7
    simp only [kt_lt, kt_le, kt_eq, kt_c0, kt_c1, kt_c2, kt_c3, kt_c4, kt_c8, kt_c9, kt_cm1, kt_c81, kt_c40, kt_c7, kt_c5, kt_c6, kt_c512, kt_c10, kt_c10000] at d_7
    refine lv_aload_n hx hb dX11_isTaken_10 rfl (lv_at hl 0 rfl) ?_
    refine va_get (D := D) (ci := 11) (C := RX11) (T := TX11) (N := 29) hx hb hts iw_X11_isTaken_X11 hown hK hP 0 rfl rfl 12 (by decide) (hts (.fieldLink RX11 27 "KingTableModel" "kind" "[I") (kt_wp_X11_isTaken__X11_isTaken_r1 kt_wm0)) (fun _ h9 => h9) rfl dX11_isTaken_11 ?_
    refine lv_iload_n hx hb dX11_isTaken_14 rfl (lv_at hl 1 rfl) ?_
    have hi_3 : vp_in p1 40 := by exact kt_in (by omega) (by omega)
    refine va_iald hx hb hK hP 4 0 rfl rfl hi_3 dX11_isTaken_15 ?_
    refine lv_topi (fun a_15 ea_15 => ?_)
    refine lv_iconst (v := 2) hx hb dX11_isTaken_16 (by decide) ?_
    refine lv_icmp_ne (tgt := 28) hx hb dX11_isTaken_17 (by decide) (fun c_17 => ?_) (fun c_17 => ?_)
    · have d_17 := c_17
      simp only [kt_lt, kt_le, kt_eq, kt_c0, kt_c1, kt_c2, kt_c3, kt_c4, kt_c8, kt_c9, kt_cm1, kt_c81, kt_c40, kt_c7, kt_c5, kt_c6, kt_c512, kt_c10, kt_c10000] at d_17
      refine lv_aload_n hx hb dX11_isTaken_28 rfl (lv_at hl 0 rfl) ?_
      refine lv_iload_n hx hb dX11_isTaken_29 rfl (lv_at hl 1 rfl) ?_
      refine lv_aload_n hx hb dX11_isTaken_30 rfl (lv_at hl 0 rfl) ?_
      refine lv_aload_n hx hb dX11_isTaken_31 rfl (lv_at hl 0 rfl) ?_
      refine va_get (D := D) (ci := 11) (C := RX11) (T := TX11) (N := 29) hx hb hts iw_X11_isTaken_X11 hown hK hP 0 rfl rfl 13 (by decide) (hts (.fieldLink RX11 30 "KingTableModel" "at" "[I") (kt_wp_X11_isTaken__X11_isTaken_r1 kt_wm2)) (fun _ h9 => h9) rfl dX11_isTaken_32 ?_
      refine lv_iload_n hx hb dX11_isTaken_35 rfl (lv_at hl 1 rfl) ?_
      have hi_4 : vp_in p1 40 := by exact kt_in (by omega) (by omega)
      refine va_iald hx hb hK hP 1 0 rfl rfl hi_4 dX11_isTaken_36 ?_
      refine lv_topi (fun a_36 ea_36 => ?_)
      have ra_36 := hfa.get (kt_in (x := p1) (n := P_) (by omega) (by omega))
      rw [← ea_36] at ra_36
      have hon6 := hon
      rw [← ea_36] at hon6
      refine lv_iload_n hx hb dX11_isTaken_37 rfl (lv_at hl 2 rfl) ?_
      refine lv_iconst (v := 1) hx hb dX11_isTaken_38 (by decide) ?_
      refine kt_pi (wc := [(mx, .inr (11, [.int ml, .int mw, .ref ms, .int mgl, .int mhd, .int mre, .int mag, .int mkt, .int mho, .int mpc, .int msd, .int mki, .ref mk, .ref ma, .ref mo, .ref mg, .ref mm, .ref mt, .int mdn, .int mun, .ref mn, .int mtk, .ref me, .ref mq, .int msv, .ref mwo, .ref md, .ref mf, .ref mr]))]) [0] hP hD hS hA rfl (by decide) (fun hPc hDc => va_runV (As := [.int a_36, .int p2, .int 1]) (rest := [.int p1, .ref mx]) ⟨hx, hb, hml, hown, hts⟩ (c_X11_along l D cI cZ cB H.size mx ms mk ma mo mg mm mt mn me mq mwo md mf mr ml mw mgl mhd mre mag mkt mho mpc msd mki mdn mun mtk msv a_36 p2 1 hml_ hmw (by omega) (by decide)) (cwV 3 hts gX11_isTaken_X11_along rfl rfl rfl (by decide +kernel) ⟨Nat.le_of_ble_eq_true rfl, Nat.le_of_ble_eq_true rfl⟩) (kt_preV hN hK hPc hDc 0 (ci := 11) (q := (RX11, TX11, 29)) rfl rfl) rfl rfl hl.1 rfl (lv_room (Nat.le_of_ble_eq_true rfl)) dX11_isTaken_39 ⟨Nat.le_of_ble_eq_true rfl, Nat.le_of_ble_eq_true rfl⟩) (fun r_39 _ H locs hw_39 hP hS => ?_)
      have hal : -1 ≤ r_39.toInt ∧ r_39.toInt ≤ 80 := by
        rcases Int.lt_or_le (kt_rom a_36.toInt mw.toInt ml.toInt p2.toInt) (1 : Int32).toInt with h | h
        · have := hw_39.2 (by omega); omega
        · have := hw_39.1 h; omega
      refine kt_pi (wc := [(mx, .inr (11, [.int ml, .int mw, .ref ms, .int mgl, .int mhd, .int mre, .int mag, .int mkt, .int mho, .int mpc, .int msd, .int mki, .ref mk, .ref ma, .ref mo, .ref mg, .ref mm, .ref mt, .int mdn, .int mun, .ref mn, .int mtk, .ref me, .ref mq, .int msv, .ref mwo, .ref md, .ref mf, .ref mr])), (mo, .inl (cI, 81, .inl fo)), (mg, .inl (cI, 81, .inl fr)), (mk, .inl (cI, 40, .inl fk))]) [0, 2, 3, 4] hP hD hS hA rfl (by decide) (fun hPc hDc => va_runV (As := [.int p1, .int r_39]) (rest := []) ⟨hx, hb, hml, hown, hts⟩ (c_X11_isFoe l D cI cZ cB H.size mx ms mk ma mo mg mm mt mn me mq mwo md mf mr ml mw mgl mhd mre mag mkt mho mpc msd mki mdn mun mtk msv P_ fo fr fk p1 r_39 (by first | assumption | omega | rfl | decide) (by first | assumption | omega | rfl | decide) (by first | assumption | omega | rfl | decide) (by first | assumption | omega | rfl | decide)) (cwV 2 hts gX11_isTaken_X11_isFoe rfl rfl rfl (by decide +kernel) ⟨Nat.le_of_ble_eq_true rfl, Nat.le_of_ble_eq_true rfl⟩) (kt_preV hN hK hPc hDc 0 (ci := 11) (q := (RX11, TX11, 29)) rfl rfl) rfl rfl hl.1 rfl (lv_room (Nat.le_of_ble_eq_true rfl)) dX11_isTaken_42 ⟨Nat.le_of_ble_eq_true rfl, Nat.le_of_ble_eq_true rfl⟩) (fun r_42 _ H locs hw_42 hP hS => ?_)
      exact kt_rz () hx hb hr hlk hS dX11_isTaken_45 hP hD (by show 0 ≤ r_42.toInt ∧ r_42.toInt ≤ 1; first | exact hw_42 | exact hcz) (by exact kt_z hw_42.1 hw_42.2)
    · have d_17 := c_17
      simp only [kt_lt, kt_le, kt_eq, kt_c0, kt_c1, kt_c2, kt_c3, kt_c4, kt_c8, kt_c9, kt_cm1, kt_c81, kt_c40, kt_c7, kt_c5, kt_c6, kt_c512, kt_c10, kt_c10000] at d_17
      refine lv_aload_n hx hb dX11_isTaken_20 rfl (lv_at hl 0 rfl) ?_
      refine va_get (D := D) (ci := 11) (C := RX11) (T := TX11) (N := 29) hx hb hts iw_X11_isTaken_X11 hown hK hP 0 rfl rfl 4 (by decide) (hts (.fieldLink RX11 20 "KingTableModel" "hard" "I") (kt_wp_X11_isTaken__X11_isTaken_r1 kt_wm1)) (fun _ h9 => h9) rfl dX11_isTaken_21 ?_
      refine lv_iconst (v := 4) hx hb dX11_isTaken_24 (by decide) ?_
      refine lv_icmp_eq (tgt := 46) hx hb dX11_isTaken_25 (by decide) (fun c_25 => ?_) (fun c_25 => ?_)
      · have d_25 := c_25
        simp only [kt_lt, kt_le, kt_eq, kt_c0, kt_c1, kt_c2, kt_c3, kt_c4, kt_c8, kt_c9, kt_cm1, kt_c81, kt_c40, kt_c7, kt_c5, kt_c6, kt_c512, kt_c10, kt_c10000] at d_25
        exact j_46 () (by trivial) H _ hP hD hS ls (lv_sub hl [0, 1, 2] rfl)
      · have d_25 := c_25
        simp only [kt_lt, kt_le, kt_eq, kt_c0, kt_c1, kt_c2, kt_c3, kt_c4, kt_c8, kt_c9, kt_cm1, kt_c81, kt_c40, kt_c7, kt_c5, kt_c6, kt_c512, kt_c10, kt_c10000] at d_25
        refine lv_aload_n hx hb dX11_isTaken_28 rfl (lv_at hl 0 rfl) ?_
        refine lv_iload_n hx hb dX11_isTaken_29 rfl (lv_at hl 1 rfl) ?_
        refine lv_aload_n hx hb dX11_isTaken_30 rfl (lv_at hl 0 rfl) ?_
        refine lv_aload_n hx hb dX11_isTaken_31 rfl (lv_at hl 0 rfl) ?_
        refine va_get (D := D) (ci := 11) (C := RX11) (T := TX11) (N := 29) hx hb hts iw_X11_isTaken_X11 hown hK hP 0 rfl rfl 13 (by decide) (hts (.fieldLink RX11 30 "KingTableModel" "at" "[I") (kt_wp_X11_isTaken__X11_isTaken_r1 kt_wm2)) (fun _ h9 => h9) rfl dX11_isTaken_32 ?_
        refine lv_iload_n hx hb dX11_isTaken_35 rfl (lv_at hl 1 rfl) ?_
        have hi_5 : vp_in p1 40 := by exact kt_in (by omega) (by omega)
        refine va_iald hx hb hK hP 1 0 rfl rfl hi_5 dX11_isTaken_36 ?_
        refine lv_topi (fun a_36 ea_36 => ?_)
        have ra_36 := hfa.get (kt_in (x := p1) (n := P_) (by omega) (by omega))
        rw [← ea_36] at ra_36
        have hon6 := hon
        rw [← ea_36] at hon6
        refine lv_iload_n hx hb dX11_isTaken_37 rfl (lv_at hl 2 rfl) ?_
        refine lv_iconst (v := 1) hx hb dX11_isTaken_38 (by decide) ?_
        refine kt_pi (wc := [(mx, .inr (11, [.int ml, .int mw, .ref ms, .int mgl, .int mhd, .int mre, .int mag, .int mkt, .int mho, .int mpc, .int msd, .int mki, .ref mk, .ref ma, .ref mo, .ref mg, .ref mm, .ref mt, .int mdn, .int mun, .ref mn, .int mtk, .ref me, .ref mq, .int msv, .ref mwo, .ref md, .ref mf, .ref mr]))]) [0] hP hD hS hA rfl (by decide) (fun hPc hDc => va_runV (As := [.int a_36, .int p2, .int 1]) (rest := [.int p1, .ref mx]) ⟨hx, hb, hml, hown, hts⟩ (c_X11_along l D cI cZ cB H.size mx ms mk ma mo mg mm mt mn me mq mwo md mf mr ml mw mgl mhd mre mag mkt mho mpc msd mki mdn mun mtk msv a_36 p2 1 hml_ hmw (by omega) (by decide)) (cwV 3 hts gX11_isTaken_X11_along rfl rfl rfl (by decide +kernel) ⟨Nat.le_of_ble_eq_true rfl, Nat.le_of_ble_eq_true rfl⟩) (kt_preV hN hK hPc hDc 0 (ci := 11) (q := (RX11, TX11, 29)) rfl rfl) rfl rfl hl.1 rfl (lv_room (Nat.le_of_ble_eq_true rfl)) dX11_isTaken_39 ⟨Nat.le_of_ble_eq_true rfl, Nat.le_of_ble_eq_true rfl⟩) (fun r_39 _ H locs hw_39 hP hS => ?_)
        have hal : -1 ≤ r_39.toInt ∧ r_39.toInt ≤ 80 := by
          rcases Int.lt_or_le (kt_rom a_36.toInt mw.toInt ml.toInt p2.toInt) (1 : Int32).toInt with h | h
          · have := hw_39.2 (by omega); omega
          · have := hw_39.1 h; omega
        refine kt_pi (wc := [(mx, .inr (11, [.int ml, .int mw, .ref ms, .int mgl, .int mhd, .int mre, .int mag, .int mkt, .int mho, .int mpc, .int msd, .int mki, .ref mk, .ref ma, .ref mo, .ref mg, .ref mm, .ref mt, .int mdn, .int mun, .ref mn, .int mtk, .ref me, .ref mq, .int msv, .ref mwo, .ref md, .ref mf, .ref mr])), (mo, .inl (cI, 81, .inl fo)), (mg, .inl (cI, 81, .inl fr)), (mk, .inl (cI, 40, .inl fk))]) [0, 2, 3, 4] hP hD hS hA rfl (by decide) (fun hPc hDc => va_runV (As := [.int p1, .int r_39]) (rest := []) ⟨hx, hb, hml, hown, hts⟩ (c_X11_isFoe l D cI cZ cB H.size mx ms mk ma mo mg mm mt mn me mq mwo md mf mr ml mw mgl mhd mre mag mkt mho mpc msd mki mdn mun mtk msv P_ fo fr fk p1 r_39 (by first | assumption | omega | rfl | decide) (by first | assumption | omega | rfl | decide) (by first | assumption | omega | rfl | decide) (by first | assumption | omega | rfl | decide)) (cwV 2 hts gX11_isTaken_X11_isFoe rfl rfl rfl (by decide +kernel) ⟨Nat.le_of_ble_eq_true rfl, Nat.le_of_ble_eq_true rfl⟩) (kt_preV hN hK hPc hDc 0 (ci := 11) (q := (RX11, TX11, 29)) rfl rfl) rfl rfl hl.1 rfl (lv_room (Nat.le_of_ble_eq_true rfl)) dX11_isTaken_42 ⟨Nat.le_of_ble_eq_true rfl, Nat.le_of_ble_eq_true rfl⟩) (fun r_42 _ H locs hw_42 hP hS => ?_)
        exact kt_rz () hx hb hr hlk hS dX11_isTaken_45 hP hD (by show 0 ≤ r_42.toInt ∧ r_42.toInt ≤ 1; first | exact hw_42 | exact hcz) (by exact kt_z hw_42.1 hw_42.2)
