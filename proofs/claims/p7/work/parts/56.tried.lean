theorem iw_X11_tried_X11 : ∀ w ∈ wsX110, w ∈ wsX11_tried := fun _ h => kt_wp_X11_tried__X110 h
set_option maxHeartbeats 4000000 in
set_option maxRecDepth 100000 in
theorem c_X11_tried (l : Launch) (D : va_G) (cI cZ cB : ClassId) (sz : Nat) (mx : Nat) (ms : Nat) (mk : Nat) (ma : Nat) (mo : Nat) (mg : Nat) (mm : Nat) (mt : Nat) (mn : Nat) (me : Nat) (mq : Nat) (mwo : Nat) (md : Nat) (mf : Nat) (mr : Nat) (ml : Int32) (mw : Int32) (mgl : Int32) (mhd : Int32) (mre : Int32) (mag : Int32) (mkt : Int32) (mho : Int32) (mpc : Int32) (msd : Int32) (mki : Int32) (mdn : Int32) (mun : Int32) (mtk : Int32) (msv : Int32) (P_ : Nat) (fa : Nat → Int32) (fo : Nat → Int32) (fr : Nat → Int32) (fk : Nat → Int32) (ft : Nat → Int32) (gw : Nat → Int32) (p1 : Int32) (hml_ : 2 ≤ ml.toInt ∧ ml.toInt ≤ 9) (hmw : 2 ≤ mw.toInt ∧ mw.toInt ≤ 9) (hpc : (P_ : Int) = mpc.toInt ∧ P_ ≤ 40) (hfa : kt_r fa P_ (-1) (ml.toInt * mw.toInt - 1)) (hco : kt_con fo fa P_) (hsd : 0 ≤ msd.toInt ∧ msd.toInt ≤ 1) (hst_ : 2 * kt_pw (ml.toInt * mw.toInt + 1) P_ ≤ 10000) (hp1 : 0 ≤ p1.toInt) : kt_Mi l yX11_tried wsX11_tried { frames := 4, cells := 0, slots := 0, locals := 93 } D (kt_ty cI cZ cB) [.ref mx, .int p1] sz [(mx, .inr (11, [.int ml, .int mw, .ref ms, .int mgl, .int mhd, .int mre, .int mag, .int mkt, .int mho, .int mpc, .int msd, .int mki, .ref mk, .ref ma, .ref mo, .ref mg, .ref mm, .ref mt, .int mdn, .int mun, .ref mn, .int mtk, .ref me, .ref mq, .int msv, .ref mwo, .ref md, .ref mf, .ref mr])), (ma, .inl (cI, 40, .inl fa)), (mo, .inl (cI, 81, .inl fo)), (mg, .inl (cI, 81, .inl fr)), (mk, .inl (cI, 40, .inl fk)), (mn, .inl (cZ, 40, .inl ft)), (mwo, .inl (cI, 10000, .inl gw))] (fun (r : Int32) (u : (Nat → Int32) × (Nat → Int32) × (Nat → Int32) × Int32 × Int32) => (r.toInt = 0 ∨ r.toInt = 1 ∨ r.toInt = 3) ∧ kt_r u.1 P_ (-1) (ml.toInt * mw.toInt - 1) ∧ kt_con u.2.1 u.1 P_ ∧ (0 ≤ u.2.2.2.2.toInt ∧ u.2.2.2.2.toInt ≤ 1)) (fun (u : (Nat → Int32) × (Nat → Int32) × (Nat → Int32) × Int32 × Int32) => [(mx, .inr (11, [.int ml, .int mw, .ref ms, .int mgl, .int mhd, .int mre, .int mag, .int mkt, .int mho, .int mpc, .int u.2.2.2.2, .int mki, .ref mk, .ref ma, .ref mo, .ref mg, .ref mm, .ref mt, .int mdn, .int mun, .ref mn, .int u.2.2.2.1, .ref me, .ref mq, .int msv, .ref mwo, .ref md, .ref mf, .ref mr])), (ma, .inl (cI, 40, .inl u.1)), (mo, .inl (cI, 81, .inl u.2.1)), (mg, .inl (cI, 81, .inl fr)), (mk, .inl (cI, 40, .inl fk)), (mn, .inl (cZ, 40, .inl u.2.2.1)), (mwo, .inl (cI, 10000, .inl gw))]) 0 0 := by
  refine kt_Mi.of (cc := cX11_tried) (maxL := 8) (ret := some .int) (by decide) rfl (Nat.le_of_ble_eq_true rfl) ?_
  intro p e s m below meth c A ls H hAt hP hD hS hl
  obtain ⟨hx, hb, hr, hml, hown, hts, hN, hK, hlk, hnm, hA⟩ := hAt
  have hl : lv_has ls 8 [(0, .ref mx), (1, .int p1)] := hl
  have hown : s.vm.findClass RX11 = some m.cls := hown
  have hsb := kt_mulb hml_ hmw
  refine lv_iload_n hx hb dX11_tried_0 rfl (lv_at hl 1 rfl) ?_
  refine lv_iconst (v := 2) hx hb dX11_tried_1 (by decide) ?_
  refine lv_irem hx hb dX11_tried_2 (by decide) ?_
  refine lv_topi (fun t_2 et_2 => ?_)
  have hk_2 := kt_remk et_2 (by omega) (by decide)
  rw [show (2 : Int32).toInt = 2 by decide] at hk_2
  refine lv_istore_n (lv' := [(2, .int t_2), (0, .ref mx), (1, .int p1)]) hx hb dX11_tried_3 rfl hl (by decide) rfl (fun ls hl => ?_)
  refine lv_iconst (v := 1) hx hb dX11_tried_4 (by decide) ?_
  refine lv_istore_n (lv' := [(3, .int 1), (2, .int t_2), (0, .ref mx), (1, .int p1)]) hx hb dX11_tried_5 rfl hl (by decide) rfl (fun ls hl => ?_)
  refine lv_aload_n hx hb dX11_tried_6 rfl (lv_at hl 2 rfl) ?_
  refine lv_iload_n hx hb dX11_tried_7 rfl (lv_at hl 3 rfl) ?_
  refine kt_bi (wc := [(mx, .inr (11, [.int ml, .int mw, .ref ms, .int mgl, .int mhd, .int mre, .int mag, .int mkt, .int mho, .int mpc, .int msd, .int mki, .ref mk, .ref ma, .ref mo, .ref mg, .ref mm, .ref mt, .int mdn, .int mun, .ref mn, .int mtk, .ref me, .ref mq, .int msv, .ref mwo, .ref md, .ref mf, .ref mr])), (ma, .inl (cI, 40, .inl fa)), (mo, .inl (cI, 81, .inl fo)), (mg, .inl (cI, 81, .inl fr)), (mk, .inl (cI, 40, .inl fk))]) (wr := [(mn, .inl (cZ, 40, .inl ft)), (mwo, .inl (cI, 10000, .inl gw))]) [0, 1, 2, 3, 4] [5, 6] hP hD hS hA rfl rfl (by decide) (by decide) (by decide) (fun hPc hDc => va_runV (As := [.int p1]) (rest := []) ⟨hx, hb, hml, hown, hts⟩ (c_X11_setUp l D cI cZ cB H.size mx ms mk ma mo mg mm mt mn me mq mwo md mf mr ml mw mgl mhd mre mag mkt mho mpc msd mki mdn mun mtk msv P_ fa fo fr fk p1 (by first | assumption | omega | rfl | decide) (by first | assumption | omega | rfl | decide) (by first | assumption | omega | rfl | decide) (by first | assumption | omega | rfl | decide) (by first | assumption | omega | rfl | decide) (by first | assumption | omega | rfl | decide)) (cwV 1 hts gX11_tried_X11_setUp rfl rfl rfl (by decide +kernel) ⟨Nat.le_of_ble_eq_true rfl, Nat.le_of_ble_eq_true rfl⟩) (kt_preV hN hK hPc hDc 0 (ci := 11) (q := (RX11, TX11, 29)) rfl rfl) rfl rfl hl.1 rfl (lv_room (Nat.le_of_ble_eq_true rfl)) dX11_tried_8 ⟨Nat.le_of_ble_eq_true rfl, Nat.le_of_ble_eq_true rfl⟩) (fun r_8 u_ H locs hw_8 hP hD hS => ?_)
  obtain ⟨fa2_8, fo2_8, msd2_8⟩ := u_
  have hP : va_P D vwCl [(mx, .inr (11, [.int ml, .int mw, .ref ms, .int mgl, .int mhd, .int mre, .int mag, .int mkt, .int mho, .int mpc, .int msd2_8, .int mki, .ref mk, .ref ma, .ref mo, .ref mg, .ref mm, .ref mt, .int mdn, .int mun, .ref mn, .int mtk, .ref me, .ref mq, .int msv, .ref mwo, .ref md, .ref mf, .ref mr])), (ma, .inl (cI, 40, .inl fa2_8)), (mo, .inl (cI, 81, .inl fo2_8)), (mg, .inl (cI, 81, .inl fr)), (mk, .inl (cI, 40, .inl fk)), (mn, .inl (cZ, 40, .inl ft)), (mwo, .inl (cI, 10000, .inl gw))] H := hP.sub [2, 3, 4, 5, 6, 0, 1] rfl
  have hD : va_D A [(mx, .inr (11, [.int ml, .int mw, .ref ms, .int mgl, .int mhd, .int mre, .int mag, .int mkt, .int mho, .int mpc, .int msd2_8, .int mki, .ref mk, .ref ma, .ref mo, .ref mg, .ref mm, .ref mt, .int mdn, .int mun, .ref mn, .int mtk, .ref me, .ref mq, .int msv, .ref mwo, .ref md, .ref mf, .ref mr])), (ma, .inl (cI, 40, .inl fa2_8)), (mo, .inl (cI, 81, .inl fo2_8)), (mg, .inl (cI, 81, .inl fr)), (mk, .inl (cI, 40, .inl fk)), (mn, .inl (cZ, 40, .inl ft)), (mwo, .inl (cI, 10000, .inl gw))] := hD.sub [2, 3, 4, 5, 6, 0, 1] (by decide) rfl
  try dsimp only at hw_8
  obtain ⟨hr_, hfa, hco, hsd⟩ := hw_8
  refine lv_istore (lv' := [(4, .int r_8), (3, .int 1), (2, .int t_2), (0, .ref mx), (1, .int p1)]) hx hb dX11_tried_11 hl (by decide) rfl (fun ls hl => ?_)
  refine lv_iconst (v := 0) hx hb dX11_tried_13 (by decide) ?_
  refine lv_istore (lv' := [(5, .int 0), (4, .int r_8), (3, .int 1), (2, .int t_2), (0, .ref mx), (1, .int p1)]) hx hb dX11_tried_14 hl (by decide) rfl (fun ls hl => ?_)
  refine kt_loop (σ := Nat × Int32 × (Nat → Int32) × (Nat → Int32) × (Nat → Int32) × Int32 × Int32) 16 8 (fun u => [(mx, .inr (11, [.int ml, .int mw, .ref ms, .int mgl, .int mhd, .int mre, .int mag, .int mkt, .int mho, .int mpc, .int u.2.2.2.2.2.2, .int mki, .ref mk, .ref ma, .ref mo, .ref mg, .ref mm, .ref mt, .int mdn, .int mun, .ref mn, .int u.2.2.2.2.2.1, .ref me, .ref mq, .int msv, .ref mwo, .ref md, .ref mf, .ref mr])), (ma, .inl (cI, 40, .inl u.2.2.1)), (mo, .inl (cI, 81, .inl u.2.2.2.1)), (mg, .inl (cI, 81, .inl fr)), (mk, .inl (cI, 40, .inl fk)), (mn, .inl (cZ, 40, .inl u.2.2.2.2.1)), (mwo, .inl (cI, 10000, .inl gw))]) (fun u => [(5, .int (nI u.1)), (3, .int u.2.1), (2, .int t_2), (0, .ref mx), (1, .int p1)]) (fun n u => (u.1 ≤ 40 ∧ 40 < u.1 + n) ∧ kt_r u.2.2.1 P_ (-1) (ml.toInt * mw.toInt - 1) ∧ kt_con u.2.2.2.1 u.2.2.1 P_ ∧ (0 ≤ u.2.2.2.2.2.2.toInt ∧ u.2.2.2.2.2.2.toInt ≤ 1)) (fun u h => by omega) (fun n_16 ih_16 u hI H locs hP hD hS ls hl => ?_) (41) (0, (1 : Int32), fa2_8, fo2_8, ft, mtk, msd2_8) (by show (0 ≤ 40 ∧ 40 < 0 + 41) ∧ kt_r fa2_8 P_ (-1) (ml.toInt * mw.toInt - 1) ∧ kt_con fo2_8 fa2_8 P_ ∧ (0 ≤ msd2_8.toInt ∧ msd2_8.toInt ≤ 1); exact ⟨by decide, hfa, hco, hsd⟩) hP hD hS (lv_sub hl [0, 2, 3, 4, 5] rfl)
  obtain ⟨k, al_, a1, a2, a3, atk, asd⟩ := u
  have hP : va_P D vwCl [(mx, .inr (11, [.int ml, .int mw, .ref ms, .int mgl, .int mhd, .int mre, .int mag, .int mkt, .int mho, .int mpc, .int asd, .int mki, .ref mk, .ref ma, .ref mo, .ref mg, .ref mm, .ref mt, .int mdn, .int mun, .ref mn, .int atk, .ref me, .ref mq, .int msv, .ref mwo, .ref md, .ref mf, .ref mr])), (ma, .inl (cI, 40, .inl a1)), (mo, .inl (cI, 81, .inl a2)), (mg, .inl (cI, 81, .inl fr)), (mk, .inl (cI, 40, .inl fk)), (mn, .inl (cZ, 40, .inl a3)), (mwo, .inl (cI, 10000, .inl gw))] H := hP
  have hD : va_D A [(mx, .inr (11, [.int ml, .int mw, .ref ms, .int mgl, .int mhd, .int mre, .int mag, .int mkt, .int mho, .int mpc, .int asd, .int mki, .ref mk, .ref ma, .ref mo, .ref mg, .ref mm, .ref mt, .int mdn, .int mun, .ref mn, .int atk, .ref me, .ref mq, .int msv, .ref mwo, .ref md, .ref mf, .ref mr])), (ma, .inl (cI, 40, .inl a1)), (mo, .inl (cI, 81, .inl a2)), (mg, .inl (cI, 81, .inl fr)), (mk, .inl (cI, 40, .inl fk)), (mn, .inl (cZ, 40, .inl a3)), (mwo, .inl (cI, 10000, .inl gw))] := hD
  have hl : lv_has ls 8 [(5, .int (nI k)), (3, .int al_), (2, .int t_2), (0, .ref mx), (1, .int p1)] := hl
  have hI : (k ≤ 40 ∧ 40 < k + (n_16 + 1)) ∧ kt_r a1 P_ (-1) (ml.toInt * mw.toInt - 1) ∧ kt_con a2 a1 P_ ∧ (0 ≤ asd.toInt ∧ asd.toInt ≤ 1) := hI
  obtain ⟨hkb, hfa, hco, hsd⟩ := hI
  have hk0 := kt_nI (n := k) (by omega)
  refine lv_iload hx hb dX11_tried_16 (lv_at hl 0 rfl) ?_
  refine lv_aload_n hx hb dX11_tried_18 rfl (lv_at hl 3 rfl) ?_
  refine va_get (D := D) (ci := 11) (C := RX11) (T := TX11) (N := 29) hx hb hts iw_X11_tried_X11 hown hK hP 0 rfl rfl 9 (by decide) (hts (.fieldLink RX11 103 "KingTableModel" "pieces" "I") (kt_wp_X11_tried__X11_tried_r1 kt_wm0)) (fun _ h9 => h9) rfl dX11_tried_19 ?_
  refine lv_icmp_ge (tgt := 159) hx hb dX11_tried_22 (by decide) (fun c_22 => ?_) (fun c_22 => ?_)
  · have d_22 := c_22
    simp only [kt_lt, kt_le, kt_eq, kt_c0, kt_c1, kt_c2, kt_c3, kt_c4, kt_c8, kt_c9, kt_cm1, kt_c81, kt_c40, kt_c7, kt_c5, kt_c6, kt_c512, kt_c10, kt_c10000] at d_22
    refine lv_iload_n hx hb dX11_tried_159 rfl (lv_at hl 1 rfl) ?_
    refine lv_if_eq (tgt := 169) hx hb dX11_tried_160 (by decide) (fun c_160 => ?_) (fun c_160 => ?_)
    · have d_160 := c_160
      simp only [kt_lt, kt_le, kt_eq, kt_c0, kt_c1, kt_c2, kt_c3, kt_c4, kt_c8, kt_c9, kt_cm1, kt_c81, kt_c40, kt_c7, kt_c5, kt_c6, kt_c512, kt_c10, kt_c10000] at d_160
      refine lv_iconst (v := 3) hx hb dX11_tried_169 (by decide) ?_
      exact kt_ri (a1, a2, a3, atk, asd) hx hb hr hlk hS dX11_tried_170 hP hD (by show ((3 : Int32).toInt = 0 ∨ (3 : Int32).toInt = 1 ∨ (3 : Int32).toInt = 3) ∧ kt_r a1 P_ (-1) (ml.toInt * mw.toInt - 1) ∧ kt_con a2 a1 P_ ∧ (0 ≤ asd.toInt ∧ asd.toInt ≤ 1); first | exact ⟨by omega, hfa, hco, hsd⟩ | exact ⟨Or.inr (Or.inr (by decide)), hfa, hco, hsd⟩)
    · have d_160 := c_160
      simp only [kt_lt, kt_le, kt_eq, kt_c0, kt_c1, kt_c2, kt_c3, kt_c4, kt_c8, kt_c9, kt_cm1, kt_c81, kt_c40, kt_c7, kt_c5, kt_c6, kt_c512, kt_c10, kt_c10000] at d_160
      refine lv_iconst (v := 1) hx hb dX11_tried_163 (by decide) ?_
      refine lv_iload_n hx hb dX11_tried_164 rfl (lv_at hl 2 rfl) ?_
      refine lv_isub hx hb dX11_tried_165 ?_
      refine lv_topi (fun t_165 et_165 => ?_)
      first | have hk_165 := kt_subx et_165 (by first | omega | (simp only [kt_c0, kt_c1, kt_c2, kt_c3, kt_c4, kt_c8, kt_c9, kt_cm1, kt_c81, kt_c40, kt_c7, kt_c5, kt_c6, kt_c512, kt_c10, kt_c10000]; omega)) (by first | omega | (simp only [kt_c0, kt_c1, kt_c2, kt_c3, kt_c4, kt_c8, kt_c9, kt_cm1, kt_c81, kt_c40, kt_c7, kt_c5, kt_c6, kt_c512, kt_c10, kt_c10000]; omega)) | obtain ⟨k_165, hk_165, hm_165, hM_165⟩ := kt_subk et_165
      try simp only [kt_c0, kt_c1, kt_c2, kt_c3, kt_c4, kt_c8, kt_c9, kt_cm1, kt_c81, kt_c40, kt_c7, kt_c5, kt_c6, kt_c512, kt_c10, kt_c10000] at hk_165
      refine lv_goto (tgt := 170) hx hb dX11_tried_166 (by decide) ?_
      exact kt_ri (a1, a2, a3, atk, asd) hx hb hr hlk hS dX11_tried_170 hP hD (by show (t_165.toInt = 0 ∨ t_165.toInt = 1 ∨ t_165.toInt = 3) ∧ kt_r a1 P_ (-1) (ml.toInt * mw.toInt - 1) ∧ kt_con a2 a1 P_ ∧ (0 ≤ asd.toInt ∧ asd.toInt ≤ 1); first | exact ⟨by omega, hfa, hco, hsd⟩ | exact ⟨Or.inr (Or.inr (by decide)), hfa, hco, hsd⟩)
  · have d_22 := c_22
    simp only [kt_lt, kt_le, kt_eq, kt_c0, kt_c1, kt_c2, kt_c3, kt_c4, kt_c8, kt_c9, kt_cm1, kt_c81, kt_c40, kt_c7, kt_c5, kt_c6, kt_c512, kt_c10, kt_c10000] at d_22
    refine lv_iconst (v := 0) hx hb dX11_tried_25 (by decide) ?_
    refine lv_istore (lv' := [(6, .int 0), (5, .int (nI k)), (3, .int al_), (2, .int t_2), (0, .ref mx), (1, .int p1)]) hx hb dX11_tried_26 hl (by decide) rfl (fun ls hl => ?_)
    refine kt_loop (σ := Nat × Int32 × (Nat → Int32) × (Nat → Int32) × (Nat → Int32) × Int32 × Int32) 28 8 (fun u => [(mx, .inr (11, [.int ml, .int mw, .ref ms, .int mgl, .int mhd, .int mre, .int mag, .int mkt, .int mho, .int mpc, .int u.2.2.2.2.2.2, .int mki, .ref mk, .ref ma, .ref mo, .ref mg, .ref mm, .ref mt, .int mdn, .int mun, .ref mn, .int u.2.2.2.2.2.1, .ref me, .ref mq, .int msv, .ref mwo, .ref md, .ref mf, .ref mr])), (ma, .inl (cI, 40, .inl u.2.2.1)), (mo, .inl (cI, 81, .inl u.2.2.2.1)), (mg, .inl (cI, 81, .inl fr)), (mk, .inl (cI, 40, .inl fk)), (mn, .inl (cZ, 40, .inl u.2.2.2.2.1)), (mwo, .inl (cI, 10000, .inl gw))]) (fun u => [(6, .int (nI u.1)), (5, .int (nI k)), (3, .int u.2.1), (2, .int t_2), (0, .ref mx), (1, .int p1)]) (fun n u => (u.1 ≤ 32 ∧ 32 < u.1 + n) ∧ kt_r u.2.2.1 P_ (-1) (ml.toInt * mw.toInt - 1) ∧ kt_con u.2.2.2.1 u.2.2.1 P_ ∧ (0 ≤ u.2.2.2.2.2.2.toInt ∧ u.2.2.2.2.2.2.toInt ≤ 1)) (fun u h => by omega) (fun n_28 ih_28 u hI H locs hP hD hS ls hl => ?_) (33) (0, al_, a1, a2, a3, atk, asd) (by show (0 ≤ 32 ∧ 32 < 0 + 33) ∧ kt_r a1 P_ (-1) (ml.toInt * mw.toInt - 1) ∧ kt_con a2 a1 P_ ∧ (0 ≤ asd.toInt ∧ asd.toInt ≤ 1); exact ⟨by decide, hfa, hco, hsd⟩) hP hD hS (lv_sub hl [0, 1, 2, 3, 4, 5] rfl)
    obtain ⟨j, bl_, b1, b2, b3, btk, bsd⟩ := u
    have hP : va_P D vwCl [(mx, .inr (11, [.int ml, .int mw, .ref ms, .int mgl, .int mhd, .int mre, .int mag, .int mkt, .int mho, .int mpc, .int bsd, .int mki, .ref mk, .ref ma, .ref mo, .ref mg, .ref mm, .ref mt, .int mdn, .int mun, .ref mn, .int btk, .ref me, .ref mq, .int msv, .ref mwo, .ref md, .ref mf, .ref mr])), (ma, .inl (cI, 40, .inl b1)), (mo, .inl (cI, 81, .inl b2)), (mg, .inl (cI, 81, .inl fr)), (mk, .inl (cI, 40, .inl fk)), (mn, .inl (cZ, 40, .inl b3)), (mwo, .inl (cI, 10000, .inl gw))] H := hP
    have hD : va_D A [(mx, .inr (11, [.int ml, .int mw, .ref ms, .int mgl, .int mhd, .int mre, .int mag, .int mkt, .int mho, .int mpc, .int bsd, .int mki, .ref mk, .ref ma, .ref mo, .ref mg, .ref mm, .ref mt, .int mdn, .int mun, .ref mn, .int btk, .ref me, .ref mq, .int msv, .ref mwo, .ref md, .ref mf, .ref mr])), (ma, .inl (cI, 40, .inl b1)), (mo, .inl (cI, 81, .inl b2)), (mg, .inl (cI, 81, .inl fr)), (mk, .inl (cI, 40, .inl fk)), (mn, .inl (cZ, 40, .inl b3)), (mwo, .inl (cI, 10000, .inl gw))] := hD
    have hl : lv_has ls 8 [(6, .int (nI j)), (5, .int (nI k)), (3, .int bl_), (2, .int t_2), (0, .ref mx), (1, .int p1)] := hl
    have hI : (j ≤ 32 ∧ 32 < j + (n_28 + 1)) ∧ kt_r b1 P_ (-1) (ml.toInt * mw.toInt - 1) ∧ kt_con b2 b1 P_ ∧ (0 ≤ bsd.toInt ∧ bsd.toInt ≤ 1) := hI
    obtain ⟨hjb, hfa, hco, hsd⟩ := hI
    have hj0 := kt_nI (n := j) (by omega)
    refine lv_iload hx hb dX11_tried_28 (lv_at hl 0 rfl) ?_
    refine lv_bipush (v := 32) hx hb dX11_tried_30 (by decide) ?_
    refine lv_icmp_ge (tgt := 153) hx hb dX11_tried_32 (by decide) (fun c_32 => ?_) (fun c_32 => ?_)
    · have d_32 := c_32
      simp only [kt_lt, kt_le, kt_eq, kt_c0, kt_c1, kt_c2, kt_c3, kt_c4, kt_c8, kt_c9, kt_cm1, kt_c81, kt_c40, kt_c7, kt_c5, kt_c6, kt_c512, kt_c10, kt_c10000] at d_32
      refine lv_iinc (v := nI (k + 1)) (lv' := [(5, .int (nI (k + 1))), (6, .int (nI j)), (3, .int bl_), (2, .int t_2), (0, .ref mx), (1, .int p1)]) hx hb dX11_tried_153 hl (k := 1) rfl (nI_1 _) (by decide) rfl (fun ls hl => ?_)
      refine lv_goto (tgt := 16) hx hb dX11_tried_156 (by decide) ?_
      exact ih_16 ((k + 1), bl_, b1, b2, b3, btk, bsd) (by show ((k + 1) ≤ 40 ∧ 40 < (k + 1) + n_16) ∧ kt_r b1 P_ (-1) (ml.toInt * mw.toInt - 1) ∧ kt_con b2 b1 P_ ∧ (0 ≤ bsd.toInt ∧ bsd.toInt ≤ 1); exact ⟨by omega, hfa, hco, hsd⟩) H _ hP hD hS ls (lv_sub hl [0, 2, 3, 4, 5] rfl)
    · have d_32 := c_32
      simp only [kt_lt, kt_le, kt_eq, kt_c0, kt_c1, kt_c2, kt_c3, kt_c4, kt_c8, kt_c9, kt_cm1, kt_c81, kt_c40, kt_c7, kt_c5, kt_c6, kt_c512, kt_c10, kt_c10000] at d_32
      rw [show (32 : Int32).toInt = 32 by decide] at d_32
      refine lv_aload_n hx hb dX11_tried_35 rfl (lv_at hl 4 rfl) ?_
      refine va_get (D := D) (ci := 11) (C := RX11) (T := TX11) (N := 29) hx hb hts iw_X11_tried_X11 hown hK hP 0 rfl rfl 13 (by decide) (hts (.fieldLink RX11 30 "KingTableModel" "at" "[I") (kt_wp_X11_tried__X11_tried_r1 kt_wm1)) (fun _ h9 => h9) rfl dX11_tried_36 ?_
      refine lv_iload hx hb dX11_tried_39 (lv_at hl 1 rfl) ?_
      have hi_1 : vp_in (nI k) 40 := by exact kt_in (by omega) (by omega)
      refine va_iald hx hb hK hP 1 0 rfl rfl hi_1 dX11_tried_41 ?_
      refine lv_topi (fun a_41 ea_41 => ?_)
      have hra := hfa.get (kt_in (x := nI k) (n := P_) (by omega) (by omega))
      rw [← ea_41] at hra
      have hxe : a_41.toInt = (b1 (nI k).toNatClampNeg).toInt := by rw [ea_41]
      refine lv_iconst (v := (-1)) hx hb dX11_tried_42 (by decide) ?_
      refine lv_icmp_eq (tgt := 153) hx hb dX11_tried_43 (by decide) (fun c_43 => ?_) (fun c_43 => ?_)
      · have d_43 := c_43
        simp only [kt_lt, kt_le, kt_eq, kt_c0, kt_c1, kt_c2, kt_c3, kt_c4, kt_c8, kt_c9, kt_cm1, kt_c81, kt_c40, kt_c7, kt_c5, kt_c6, kt_c512, kt_c10, kt_c10000] at d_43
        refine lv_iinc (v := nI (k + 1)) (lv' := [(5, .int (nI (k + 1))), (6, .int (nI j)), (3, .int bl_), (2, .int t_2), (0, .ref mx), (1, .int p1)]) hx hb dX11_tried_153 hl (k := 1) rfl (nI_1 _) (by decide) rfl (fun ls hl => ?_)
        refine lv_goto (tgt := 16) hx hb dX11_tried_156 (by decide) ?_
        exact ih_16 ((k + 1), bl_, b1, b2, b3, btk, bsd) (by show ((k + 1) ≤ 40 ∧ 40 < (k + 1) + n_16) ∧ kt_r b1 P_ (-1) (ml.toInt * mw.toInt - 1) ∧ kt_con b2 b1 P_ ∧ (0 ≤ bsd.toInt ∧ bsd.toInt ≤ 1); exact ⟨by omega, hfa, hco, hsd⟩) H _ hP hD hS ls (lv_sub hl [0, 2, 3, 4, 5] rfl)
      · have d_43 := c_43
        simp only [kt_lt, kt_le, kt_eq, kt_c0, kt_c1, kt_c2, kt_c3, kt_c4, kt_c8, kt_c9, kt_cm1, kt_c81, kt_c40, kt_c7, kt_c5, kt_c6, kt_c512, kt_c10, kt_c10000] at d_43
        refine lv_aload_n hx hb dX11_tried_46 rfl (lv_at hl 4 rfl) ?_
        refine lv_iload hx hb dX11_tried_47 (lv_at hl 1 rfl) ?_
        refine kt_pi (wc := [(mx, .inr (11, [.int ml, .int mw, .ref ms, .int mgl, .int mhd, .int mre, .int mag, .int mkt, .int mho, .int mpc, .int bsd, .int mki, .ref mk, .ref ma, .ref mo, .ref mg, .ref mm, .ref mt, .int mdn, .int mun, .ref mn, .int btk, .ref me, .ref mq, .int msv, .ref mwo, .ref md, .ref mf, .ref mr])), (mk, .inl (cI, 40, .inl fk))]) [0, 4] hP hD hS hA rfl (by decide) (fun hPc hDc => va_runV (As := [.int (nI k)]) (rest := []) ⟨hx, hb, hml, hown, hts⟩ (c_X11_sideOf l D cI cZ cB H.size mx ms mk ma mo mg mm mt mn me mq mwo md mf mr ml mw mgl mhd mre mag mkt mho mpc bsd mki mdn mun btk msv fk (nI k) (by first | assumption | omega | rfl | decide)) (cwV 1 hts gX11_tried_X11_sideOf rfl rfl rfl (by decide +kernel) ⟨Nat.le_of_ble_eq_true rfl, Nat.le_of_ble_eq_true rfl⟩) (kt_preV hN hK hPc hDc 0 (ci := 11) (q := (RX11, TX11, 29)) rfl rfl) rfl rfl hl.1 rfl (lv_room (Nat.le_of_ble_eq_true rfl)) dX11_tried_49 ⟨Nat.le_of_ble_eq_true rfl, Nat.le_of_ble_eq_true rfl⟩) (fun r_49 _ H locs hw_49 hP hS => ?_)
        refine lv_iload_n hx hb dX11_tried_52 rfl (lv_at hl 3 rfl) ?_
        refine lv_icmp_ne (tgt := 153) hx hb dX11_tried_53 (by decide) (fun c_53 => ?_) (fun c_53 => ?_)
        · have d_53 := c_53
          simp only [kt_lt, kt_le, kt_eq, kt_c0, kt_c1, kt_c2, kt_c3, kt_c4, kt_c8, kt_c9, kt_cm1, kt_c81, kt_c40, kt_c7, kt_c5, kt_c6, kt_c512, kt_c10, kt_c10000] at d_53
          refine lv_iinc (v := nI (k + 1)) (lv' := [(5, .int (nI (k + 1))), (6, .int (nI j)), (3, .int bl_), (2, .int t_2), (0, .ref mx), (1, .int p1)]) hx hb dX11_tried_153 hl (k := 1) rfl (nI_1 _) (by decide) rfl (fun ls hl => ?_)
          refine lv_goto (tgt := 16) hx hb dX11_tried_156 (by decide) ?_
          exact ih_16 ((k + 1), bl_, b1, b2, b3, btk, bsd) (by show ((k + 1) ≤ 40 ∧ 40 < (k + 1) + n_16) ∧ kt_r b1 P_ (-1) (ml.toInt * mw.toInt - 1) ∧ kt_con b2 b1 P_ ∧ (0 ≤ bsd.toInt ∧ bsd.toInt ≤ 1); exact ⟨by omega, hfa, hco, hsd⟩) H _ hP hD hS ls (lv_sub hl [0, 2, 3, 4, 5] rfl)
        · have d_53 := c_53
          simp only [kt_lt, kt_le, kt_eq, kt_c0, kt_c1, kt_c2, kt_c3, kt_c4, kt_c8, kt_c9, kt_cm1, kt_c81, kt_c40, kt_c7, kt_c5, kt_c6, kt_c512, kt_c10, kt_c10000] at d_53
          refine lv_aload_n hx hb dX11_tried_56 rfl (lv_at hl 4 rfl) ?_
          refine lv_iload hx hb dX11_tried_57 (lv_at hl 1 rfl) ?_
          refine lv_iload hx hb dX11_tried_59 (lv_at hl 0 rfl) ?_
          refine lv_bipush (v := 8) hx hb dX11_tried_61 (by decide) ?_
          refine lv_idiv hx hb dX11_tried_63 (by decide) ?_
          refine lv_topi (fun t_63 et_63 => ?_)
          have hk_63 := kt_divk et_63 (by omega) (by decide)
          rw [show (8 : Int32).toInt = 8 by decide] at hk_63
          refine lv_iload hx hb dX11_tried_64 (lv_at hl 0 rfl) ?_
          refine lv_bipush (v := 8) hx hb dX11_tried_66 (by decide) ?_
          refine lv_irem hx hb dX11_tried_68 (by decide) ?_
          refine lv_topi (fun t_68 et_68 => ?_)
          have hk_68 := kt_remk et_68 (by omega) (by decide)
          rw [show (8 : Int32).toInt = 8 by decide] at hk_68
          refine lv_iconst (v := 1) hx hb dX11_tried_69 (by decide) ?_
          refine lv_iadd hx hb dX11_tried_70 ?_
          refine lv_topi (fun t_70 et_70 => ?_)
          first | have hk_70 := kt_addx et_70 (by first | omega | (simp only [kt_c0, kt_c1, kt_c2, kt_c3, kt_c4, kt_c8, kt_c9, kt_cm1, kt_c81, kt_c40, kt_c7, kt_c5, kt_c6, kt_c512, kt_c10, kt_c10000]; omega)) (by first | omega | (simp only [kt_c0, kt_c1, kt_c2, kt_c3, kt_c4, kt_c8, kt_c9, kt_cm1, kt_c81, kt_c40, kt_c7, kt_c5, kt_c6, kt_c512, kt_c10, kt_c10000]; omega)) | obtain ⟨k_70, hk_70, hm_70, hM_70⟩ := kt_addk et_70
          try simp only [kt_c0, kt_c1, kt_c2, kt_c3, kt_c4, kt_c8, kt_c9, kt_cm1, kt_c81, kt_c40, kt_c7, kt_c5, kt_c6, kt_c512, kt_c10, kt_c10000] at hk_70
          refine kt_pi (wc := [(mx, .inr (11, [.int ml, .int mw, .ref ms, .int mgl, .int mhd, .int mre, .int mag, .int mkt, .int mho, .int mpc, .int bsd, .int mki, .ref mk, .ref ma, .ref mo, .ref mg, .ref mm, .ref mt, .int mdn, .int mun, .ref mn, .int btk, .ref me, .ref mq, .int msv, .ref mwo, .ref md, .ref mf, .ref mr])), (ma, .inl (cI, 40, .inl b1)), (mo, .inl (cI, 81, .inl b2)), (mg, .inl (cI, 81, .inl fr)), (mk, .inl (cI, 40, .inl fk))]) [0, 1, 2, 3, 4] hP hD hS hA rfl (by decide) (fun hPc hDc => va_runV (As := [.int (nI k), .int t_63, .int t_70]) (rest := []) ⟨hx, hb, hml, hown, hts⟩ (c_X11_bar l D cI cZ cB H.size mx ms mk ma mo mg mm mt mn me mq mwo md mf mr ml mw mgl mhd mre mag mkt mho mpc bsd mki mdn mun btk msv P_ b1 b2 fr fk (nI k) t_63 t_70 hml_ hmw hpc hfa (hco.r (by omega)) (by omega) (by omega) (by omega)) (cwV 3 hts gX11_tried_X11_bar rfl rfl rfl (by decide +kernel) ⟨Nat.le_of_ble_eq_true rfl, Nat.le_of_ble_eq_true rfl⟩) (kt_preV hN hK hPc hDc 0 (ci := 11) (q := (RX11, TX11, 29)) rfl rfl) rfl rfl hl.1 rfl (lv_room (Nat.le_of_ble_eq_true rfl)) dX11_tried_71 ⟨Nat.le_of_ble_eq_true rfl, Nat.le_of_ble_eq_true rfl⟩) (fun r_71 _ H locs hw_71 hP hS => ?_)
          refine lv_if_eq (tgt := 80) hx hb dX11_tried_74 (by decide) (fun c_74 => ?_) (fun c_74 => ?_)
          · have d_74 := c_74
            simp only [kt_lt, kt_le, kt_eq, kt_c0, kt_c1, kt_c2, kt_c3, kt_c4, kt_c8, kt_c9, kt_cm1, kt_c81, kt_c40, kt_c7, kt_c5, kt_c6, kt_c512, kt_c10, kt_c10000] at d_74
            refine lv_aload_n hx hb dX11_tried_80 rfl (lv_at hl 4 rfl) ?_
            refine lv_iload hx hb dX11_tried_81 (lv_at hl 1 rfl) ?_
            refine lv_iload hx hb dX11_tried_83 (lv_at hl 0 rfl) ?_
            refine lv_bipush (v := 8) hx hb dX11_tried_85 (by decide) ?_
            refine lv_idiv hx hb dX11_tried_87 (by decide) ?_
            refine lv_topi (fun t_87 et_87 => ?_)
            have hk_87 := kt_divk et_87 (by omega) (by decide)
            rw [show (8 : Int32).toInt = 8 by decide] at hk_87
            refine lv_iload hx hb dX11_tried_88 (lv_at hl 0 rfl) ?_
            refine lv_bipush (v := 8) hx hb dX11_tried_90 (by decide) ?_
            refine lv_irem hx hb dX11_tried_92 (by decide) ?_
            refine lv_topi (fun t_92 et_92 => ?_)
            have hk_92 := kt_remk et_92 (by omega) (by decide)
            rw [show (8 : Int32).toInt = 8 by decide] at hk_92
            refine lv_iconst (v := 1) hx hb dX11_tried_93 (by decide) ?_
            refine lv_iadd hx hb dX11_tried_94 ?_
            refine lv_topi (fun t_94 et_94 => ?_)
            first | have hk_94 := kt_addx et_94 (by first | omega | (simp only [kt_c0, kt_c1, kt_c2, kt_c3, kt_c4, kt_c8, kt_c9, kt_cm1, kt_c81, kt_c40, kt_c7, kt_c5, kt_c6, kt_c512, kt_c10, kt_c10000]; omega)) (by first | omega | (simp only [kt_c0, kt_c1, kt_c2, kt_c3, kt_c4, kt_c8, kt_c9, kt_cm1, kt_c81, kt_c40, kt_c7, kt_c5, kt_c6, kt_c512, kt_c10, kt_c10000]; omega)) | obtain ⟨k_94, hk_94, hm_94, hM_94⟩ := kt_addk et_94
            try simp only [kt_c0, kt_c1, kt_c2, kt_c3, kt_c4, kt_c8, kt_c9, kt_cm1, kt_c81, kt_c40, kt_c7, kt_c5, kt_c6, kt_c512, kt_c10, kt_c10000] at hk_94
            refine kt_bv (wc := [(mx, .inr (11, [.int ml, .int mw, .ref ms, .int mgl, .int mhd, .int mre, .int mag, .int mkt, .int mho, .int mpc, .int bsd, .int mki, .ref mk, .ref ma, .ref mo, .ref mg, .ref mm, .ref mt, .int mdn, .int mun, .ref mn, .int btk, .ref me, .ref mq, .int msv, .ref mwo, .ref md, .ref mf, .ref mr])), (ma, .inl (cI, 40, .inl b1)), (mo, .inl (cI, 81, .inl b2)), (mg, .inl (cI, 81, .inl fr)), (mk, .inl (cI, 40, .inl fk)), (mn, .inl (cZ, 40, .inl b3))]) (wr := [(mwo, .inl (cI, 10000, .inl gw))]) [0, 1, 2, 3, 4, 5] [6] hP hD hS hA rfl rfl (by decide) (by decide) (by decide) (fun hPc hDc => va_runV (As := [.int (nI k), .int t_87, .int t_94]) (rest := []) ⟨hx, hb, hml, hown, hts⟩ (c_X11_make l D cI cZ cB H.size mx ms mk ma mo mg mm mt mn me mq mwo md mf mr ml mw mgl mhd mre mag mkt mho mpc bsd mki mdn mun btk msv P_ b1 b2 fr fk b3 (nI k) t_87 t_94 hml_ hmw hpc hfa hco (by omega) (by omega) (by omega) (by have := hw_71.2 (by omega); rw [hk_94, hk_92, hk_87]; rw [hk_70, hk_68, hk_63] at this; exact this) hsd) (cwV 3 hts gX11_tried_X11_make rfl rfl rfl (by decide +kernel) ⟨Nat.le_of_ble_eq_true rfl, Nat.le_of_ble_eq_true rfl⟩) (kt_preV hN hK hPc hDc 0 (ci := 11) (q := (RX11, TX11, 29)) rfl rfl) rfl rfl hl.1 rfl (lv_room (Nat.le_of_ble_eq_true rfl)) dX11_tried_95 ⟨Nat.le_of_ble_eq_true rfl, Nat.le_of_ble_eq_true rfl⟩) (fun u_ H locs hw_95 hP hD hS => ?_)
            obtain ⟨fa2_95, fo2_95, ft2_95, mtk2_95, msd2_95⟩ := u_
            have hP : va_P D vwCl [(mx, .inr (11, [.int ml, .int mw, .ref ms, .int mgl, .int mhd, .int mre, .int mag, .int mkt, .int mho, .int mpc, .int msd2_95, .int mki, .ref mk, .ref ma, .ref mo, .ref mg, .ref mm, .ref mt, .int mdn, .int mun, .ref mn, .int mtk2_95, .ref me, .ref mq, .int msv, .ref mwo, .ref md, .ref mf, .ref mr])), (ma, .inl (cI, 40, .inl fa2_95)), (mo, .inl (cI, 81, .inl fo2_95)), (mg, .inl (cI, 81, .inl fr)), (mk, .inl (cI, 40, .inl fk)), (mn, .inl (cZ, 40, .inl ft2_95)), (mwo, .inl (cI, 10000, .inl gw))] H := hP.sub [1, 2, 3, 4, 5, 6, 0] rfl
            have hD : va_D A [(mx, .inr (11, [.int ml, .int mw, .ref ms, .int mgl, .int mhd, .int mre, .int mag, .int mkt, .int mho, .int mpc, .int msd2_95, .int mki, .ref mk, .ref ma, .ref mo, .ref mg, .ref mm, .ref mt, .int mdn, .int mun, .ref mn, .int mtk2_95, .ref me, .ref mq, .int msv, .ref mwo, .ref md, .ref mf, .ref mr])), (ma, .inl (cI, 40, .inl fa2_95)), (mo, .inl (cI, 81, .inl fo2_95)), (mg, .inl (cI, 81, .inl fr)), (mk, .inl (cI, 40, .inl fk)), (mn, .inl (cZ, 40, .inl ft2_95)), (mwo, .inl (cI, 10000, .inl gw))] := hD.sub [1, 2, 3, 4, 5, 6, 0] (by decide) rfl
            try dsimp only at hw_95
            obtain ⟨hfa, hco, hsd⟩ := hw_95
            refine lv_aload_n hx hb dX11_tried_98 rfl (lv_at hl 4 rfl) ?_
            refine kt_pi (wc := [(mx, .inr (11, [.int ml, .int mw, .ref ms, .int mgl, .int mhd, .int mre, .int mag, .int mkt, .int mho, .int mpc, .int msd2_95, .int mki, .ref mk, .ref ma, .ref mo, .ref mg, .ref mm, .ref mt, .int mdn, .int mun, .ref mn, .int mtk2_95, .ref me, .ref mq, .int msv, .ref mwo, .ref md, .ref mf, .ref mr])), (ma, .inl (cI, 40, .inl fa2_95))]) [0, 1] hP hD hS hA rfl (by decide) (fun hPc hDc => va_runV (As := []) (rest := []) ⟨hx, hb, hml, hown, hts⟩ (c_X11_number l D cI cZ cB H.size mx ms mk ma mo mg mm mt mn me mq mwo md mf mr ml mw mgl mhd mre mag mkt mho mpc msd2_95 mki mdn mun mtk2_95 msv P_ fa2_95 hml_ hmw hpc hfa hst_ hsd) (cwV 0 hts gX11_tried_X11_number rfl rfl rfl (by decide +kernel) ⟨Nat.le_of_ble_eq_true rfl, Nat.le_of_ble_eq_true rfl⟩) (kt_preV hN hK hPc hDc 0 (ci := 11) (q := (RX11, TX11, 29)) rfl rfl) rfl rfl hl.1 rfl (lv_room (Nat.le_of_ble_eq_true rfl)) dX11_tried_99 ⟨Nat.le_of_ble_eq_true rfl, Nat.le_of_ble_eq_true rfl⟩) (fun r_99 _ H locs hw_99 hP hS => ?_)
            have hto := hw_99
            refine lv_istore (lv' := [(7, .int r_99), (6, .int (nI j)), (5, .int (nI k)), (3, .int bl_), (2, .int t_2), (0, .ref mx), (1, .int p1)]) hx hb dX11_tried_102 hl (by decide) rfl (fun ls hl => ?_)
            refine lv_aload_n hx hb dX11_tried_104 rfl (lv_at hl 5 rfl) ?_
            refine lv_iload_n hx hb dX11_tried_105 rfl (lv_at hl 6 rfl) ?_
            refine kt_bi (wc := [(mx, .inr (11, [.int ml, .int mw, .ref ms, .int mgl, .int mhd, .int mre, .int mag, .int mkt, .int mho, .int mpc, .int msd2_95, .int mki, .ref mk, .ref ma, .ref mo, .ref mg, .ref mm, .ref mt, .int mdn, .int mun, .ref mn, .int mtk2_95, .ref me, .ref mq, .int msv, .ref mwo, .ref md, .ref mf, .ref mr])), (ma, .inl (cI, 40, .inl fa2_95)), (mo, .inl (cI, 81, .inl fo2_95)), (mg, .inl (cI, 81, .inl fr)), (mk, .inl (cI, 40, .inl fk))]) (wr := [(mn, .inl (cZ, 40, .inl ft2_95)), (mwo, .inl (cI, 10000, .inl gw))]) [0, 1, 2, 3, 4] [5, 6] hP hD hS hA rfl rfl (by decide) (by decide) (by decide) (fun hPc hDc => va_runV (As := [.int p1]) (rest := []) ⟨hx, hb, hml, hown, hts⟩ (c_X11_setUp l D cI cZ cB H.size mx ms mk ma mo mg mm mt mn me mq mwo md mf mr ml mw mgl mhd mre mag mkt mho mpc msd2_95 mki mdn mun mtk2_95 msv P_ fa2_95 fo2_95 fr fk p1 (by first | assumption | omega | rfl | decide) (by first | assumption | omega | rfl | decide) (by first | assumption | omega | rfl | decide) (by first | assumption | omega | rfl | decide) (by first | assumption | omega | rfl | decide) (by first | assumption | omega | rfl | decide)) (cwV 1 hts gX11_tried_X11_setUp rfl rfl rfl (by decide +kernel) ⟨Nat.le_of_ble_eq_true rfl, Nat.le_of_ble_eq_true rfl⟩) (kt_preV hN hK hPc hDc 0 (ci := 11) (q := (RX11, TX11, 29)) rfl rfl) rfl rfl hl.1 rfl (lv_room (Nat.le_of_ble_eq_true rfl)) dX11_tried_106 ⟨Nat.le_of_ble_eq_true rfl, Nat.le_of_ble_eq_true rfl⟩) (fun r_106 u_ H locs hw_106 hP hD hS => ?_)
            obtain ⟨fa2_106, fo2_106, msd2_106⟩ := u_
            have hP : va_P D vwCl [(mx, .inr (11, [.int ml, .int mw, .ref ms, .int mgl, .int mhd, .int mre, .int mag, .int mkt, .int mho, .int mpc, .int msd2_106, .int mki, .ref mk, .ref ma, .ref mo, .ref mg, .ref mm, .ref mt, .int mdn, .int mun, .ref mn, .int mtk2_95, .ref me, .ref mq, .int msv, .ref mwo, .ref md, .ref mf, .ref mr])), (ma, .inl (cI, 40, .inl fa2_106)), (mo, .inl (cI, 81, .inl fo2_106)), (mg, .inl (cI, 81, .inl fr)), (mk, .inl (cI, 40, .inl fk)), (mn, .inl (cZ, 40, .inl ft2_95)), (mwo, .inl (cI, 10000, .inl gw))] H := hP.sub [2, 3, 4, 5, 6, 0, 1] rfl
            have hD : va_D A [(mx, .inr (11, [.int ml, .int mw, .ref ms, .int mgl, .int mhd, .int mre, .int mag, .int mkt, .int mho, .int mpc, .int msd2_106, .int mki, .ref mk, .ref ma, .ref mo, .ref mg, .ref mm, .ref mt, .int mdn, .int mun, .ref mn, .int mtk2_95, .ref me, .ref mq, .int msv, .ref mwo, .ref md, .ref mf, .ref mr])), (ma, .inl (cI, 40, .inl fa2_106)), (mo, .inl (cI, 81, .inl fo2_106)), (mg, .inl (cI, 81, .inl fr)), (mk, .inl (cI, 40, .inl fk)), (mn, .inl (cZ, 40, .inl ft2_95)), (mwo, .inl (cI, 10000, .inl gw))] := hD.sub [2, 3, 4, 5, 6, 0, 1] (by decide) rfl
            try dsimp only at hw_106
            obtain ⟨hr_, hfa, hco, hsd⟩ := hw_106
            refine lv_istore (lv' := [(4, .int r_106), (7, .int r_99), (6, .int (nI j)), (5, .int (nI k)), (3, .int bl_), (2, .int t_2), (0, .ref mx), (1, .int p1)]) hx hb dX11_tried_109 hl (by decide) rfl (fun ls hl => ?_)
            refine lv_aload_n hx hb dX11_tried_111 rfl (lv_at hl 6 rfl) ?_
            refine va_get (D := D) (ci := 11) (C := RX11) (T := TX11) (N := 29) hx hb hts iw_X11_tried_X11 hown hK hP 0 rfl rfl 25 (by decide) (hts (.fieldLink RX11 57 "KingTableModel" "worths" "[I") (kt_wp_X11_tried__X11_tried_r1 kt_wm2)) (fun _ h9 => h9) rfl dX11_tried_112 ?_
            refine lv_iload hx hb dX11_tried_115 (lv_at hl 1 rfl) ?_
            have hi_2 : vp_in r_99 10000 := by exact kt_in (by omega) (by omega)
            refine va_iald hx hb hK hP 6 0 rfl rfl hi_2 dX11_tried_117 ?_
            refine lv_topi (fun a_117 ea_117 => ?_)
            refine lv_iload_n hx hb dX11_tried_118 rfl (lv_at hl 5 rfl) ?_
            refine lv_icmp_ne (tgt := 124) hx hb dX11_tried_119 (by decide) (fun c_119 => ?_) (fun c_119 => ?_)
            · have d_119 := c_119
              simp only [kt_lt, kt_le, kt_eq, kt_c0, kt_c1, kt_c2, kt_c3, kt_c4, kt_c8, kt_c9, kt_cm1, kt_c81, kt_c40, kt_c7, kt_c5, kt_c6, kt_c512, kt_c10, kt_c10000] at d_119
              refine lv_iload_n hx hb dX11_tried_124 rfl (lv_at hl 4 rfl) ?_
              refine kt_join (σ := Int32) 146 8 (fun u => [(mx, .inr (11, [.int ml, .int mw, .ref ms, .int mgl, .int mhd, .int mre, .int mag, .int mkt, .int mho, .int mpc, .int msd2_106, .int mki, .ref mk, .ref ma, .ref mo, .ref mg, .ref mm, .ref mt, .int mdn, .int mun, .ref mn, .int mtk2_95, .ref me, .ref mq, .int msv, .ref mwo, .ref md, .ref mf, .ref mr])), (ma, .inl (cI, 40, .inl fa2_106)), (mo, .inl (cI, 81, .inl fo2_106)), (mg, .inl (cI, 81, .inl fr)), (mk, .inl (cI, 40, .inl fk)), (mn, .inl (cZ, 40, .inl ft2_95)), (mwo, .inl (cI, 10000, .inl gw))]) (fun u => [(4, .int r_106), (7, .int r_99), (6, .int (nI j)), (5, .int (nI k)), (3, .int bl_), (2, .int t_2), (0, .ref mx), (1, .int p1)]) (fun u => [.int u]) (fun u => True) (D := D) (A := A) (H0 := s.heap) (fun u hI H locs hP hD hS ls hl => ?_) (fun j_146 => ?_)
              · obtain ⟨v, rfl⟩ : ∃ z, z = u := ⟨_, rfl⟩
                have hP : va_P D vwCl [(mx, .inr (11, [.int ml, .int mw, .ref ms, .int mgl, .int mhd, .int mre, .int mag, .int mkt, .int mho, .int mpc, .int msd2_106, .int mki, .ref mk, .ref ma, .ref mo, .ref mg, .ref mm, .ref mt, .int mdn, .int mun, .ref mn, .int mtk2_95, .ref me, .ref mq, .int msv, .ref mwo, .ref md, .ref mf, .ref mr])), (ma, .inl (cI, 40, .inl fa2_106)), (mo, .inl (cI, 81, .inl fo2_106)), (mg, .inl (cI, 81, .inl fr)), (mk, .inl (cI, 40, .inl fk)), (mn, .inl (cZ, 40, .inl ft2_95)), (mwo, .inl (cI, 10000, .inl gw))] H := hP
                have hD : va_D A [(mx, .inr (11, [.int ml, .int mw, .ref ms, .int mgl, .int mhd, .int mre, .int mag, .int mkt, .int mho, .int mpc, .int msd2_106, .int mki, .ref mk, .ref ma, .ref mo, .ref mg, .ref mm, .ref mt, .int mdn, .int mun, .ref mn, .int mtk2_95, .ref me, .ref mq, .int msv, .ref mwo, .ref md, .ref mf, .ref mr])), (ma, .inl (cI, 40, .inl fa2_106)), (mo, .inl (cI, 81, .inl fo2_106)), (mg, .inl (cI, 81, .inl fr)), (mk, .inl (cI, 40, .inl fk)), (mn, .inl (cZ, 40, .inl ft2_95)), (mwo, .inl (cI, 10000, .inl gw))] := hD
                have hl : lv_has ls 8 [(4, .int r_106), (7, .int r_99), (6, .int (nI j)), (5, .int (nI k)), (3, .int bl_), (2, .int t_2), (0, .ref mx), (1, .int p1)] := hl
                refine lv_istore_n (lv' := [(3, .int v), (4, .int r_106), (7, .int r_99), (6, .int (nI j)), (5, .int (nI k)), (2, .int t_2), (0, .ref mx), (1, .int p1)]) hx hb dX11_tried_146 rfl hl (by decide) rfl (fun ls hl => ?_)
                refine lv_iinc (v := nI (j + 1)) (lv' := [(6, .int (nI (j + 1))), (3, .int v), (4, .int r_106), (7, .int r_99), (5, .int (nI k)), (2, .int t_2), (0, .ref mx), (1, .int p1)]) hx hb dX11_tried_147 hl (k := 3) rfl (nI_1 _) (by decide) rfl (fun ls hl => ?_)
                refine lv_goto (tgt := 28) hx hb dX11_tried_150 (by decide) ?_
                exact ih_28 ((j + 1), v, fa2_106, fo2_106, ft2_95, mtk2_95, msd2_106) (by show ((j + 1) ≤ 32 ∧ 32 < (j + 1) + n_28) ∧ kt_r fa2_106 P_ (-1) (ml.toInt * mw.toInt - 1) ∧ kt_con fo2_106 fa2_106 P_ ∧ (0 ≤ msd2_106.toInt ∧ msd2_106.toInt ≤ 1); exact ⟨by omega, hfa, hco, hsd⟩) H _ hP hD hS ls (lv_sub hl [0, 4, 1, 5, 6, 7] rfl)
              refine lv_if_eq (tgt := 145) hx hb dX11_tried_125 (by decide) (fun c_125 => ?_) (fun c_125 => ?_)
              · have d_125 := c_125
                simp only [kt_lt, kt_le, kt_eq, kt_c0, kt_c1, kt_c2, kt_c3, kt_c4, kt_c8, kt_c9, kt_cm1, kt_c81, kt_c40, kt_c7, kt_c5, kt_c6, kt_c512, kt_c10, kt_c10000] at d_125
                refine lv_iconst (v := 0) hx hb dX11_tried_145 (by decide) ?_
                exact j_146 (0 : Int32) (by trivial) H _ hP hD hS ls (lv_sub hl [0, 1, 2, 3, 4, 5, 6, 7] rfl)
              · have d_125 := c_125
                simp only [kt_lt, kt_le, kt_eq, kt_c0, kt_c1, kt_c2, kt_c3, kt_c4, kt_c8, kt_c9, kt_cm1, kt_c81, kt_c40, kt_c7, kt_c5, kt_c6, kt_c512, kt_c10, kt_c10000] at d_125
                refine lv_aload_n hx hb dX11_tried_128 rfl (lv_at hl 6 rfl) ?_
                refine va_get (D := D) (ci := 11) (C := RX11) (T := TX11) (N := 29) hx hb hts iw_X11_tried_X11 hown hK hP 0 rfl rfl 25 (by decide) (hts (.fieldLink RX11 57 "KingTableModel" "worths" "[I") (kt_wp_X11_tried__X11_tried_r1 kt_wm2)) (fun _ h9 => h9) rfl dX11_tried_129 ?_
                refine lv_iload hx hb dX11_tried_132 (lv_at hl 1 rfl) ?_
                have hi_3 : vp_in r_99 10000 := by exact kt_in (by omega) (by omega)
                refine va_iald hx hb hK hP 6 0 rfl rfl hi_3 dX11_tried_134 ?_
                refine lv_topi (fun a_134 ea_134 => ?_)
                refine lv_iconst (v := 1) hx hb dX11_tried_135 (by decide) ?_
                refine lv_iload_n hx hb dX11_tried_136 rfl (lv_at hl 5 rfl) ?_
                refine lv_isub hx hb dX11_tried_137 ?_
                refine lv_topi (fun t_137 et_137 => ?_)
                first | have hk_137 := kt_subx et_137 (by first | omega | (simp only [kt_c0, kt_c1, kt_c2, kt_c3, kt_c4, kt_c8, kt_c9, kt_cm1, kt_c81, kt_c40, kt_c7, kt_c5, kt_c6, kt_c512, kt_c10, kt_c10000]; omega)) (by first | omega | (simp only [kt_c0, kt_c1, kt_c2, kt_c3, kt_c4, kt_c8, kt_c9, kt_cm1, kt_c81, kt_c40, kt_c7, kt_c5, kt_c6, kt_c512, kt_c10, kt_c10000]; omega)) | obtain ⟨k_137, hk_137, hm_137, hM_137⟩ := kt_subk et_137
                try simp only [kt_c0, kt_c1, kt_c2, kt_c3, kt_c4, kt_c8, kt_c9, kt_cm1, kt_c81, kt_c40, kt_c7, kt_c5, kt_c6, kt_c512, kt_c10, kt_c10000] at hk_137
                refine lv_icmp_ne (tgt := 145) hx hb dX11_tried_138 (by decide) (fun c_138 => ?_) (fun c_138 => ?_)
                · have d_138 := c_138
                  simp only [kt_lt, kt_le, kt_eq, kt_c0, kt_c1, kt_c2, kt_c3, kt_c4, kt_c8, kt_c9, kt_cm1, kt_c81, kt_c40, kt_c7, kt_c5, kt_c6, kt_c512, kt_c10, kt_c10000] at d_138
                  refine lv_iconst (v := 0) hx hb dX11_tried_145 (by decide) ?_
                  exact j_146 (0 : Int32) (by trivial) H _ hP hD hS ls (lv_sub hl [0, 1, 2, 3, 4, 5, 6, 7] rfl)
                · have d_138 := c_138
                  simp only [kt_lt, kt_le, kt_eq, kt_c0, kt_c1, kt_c2, kt_c3, kt_c4, kt_c8, kt_c9, kt_cm1, kt_c81, kt_c40, kt_c7, kt_c5, kt_c6, kt_c512, kt_c10, kt_c10000] at d_138
                  refine lv_iconst (v := 1) hx hb dX11_tried_141 (by decide) ?_
                  refine lv_goto (tgt := 146) hx hb dX11_tried_142 (by decide) ?_
                  exact j_146 (1 : Int32) (by trivial) H _ hP hD hS ls (lv_sub hl [0, 1, 2, 3, 4, 5, 6, 7] rfl)
            · have d_119 := c_119
              simp only [kt_lt, kt_le, kt_eq, kt_c0, kt_c1, kt_c2, kt_c3, kt_c4, kt_c8, kt_c9, kt_cm1, kt_c81, kt_c40, kt_c7, kt_c5, kt_c6, kt_c512, kt_c10, kt_c10000] at d_119
              refine lv_iload_n hx hb dX11_tried_122 rfl (lv_at hl 5 rfl) ?_
              exact kt_ri (fa2_106, fo2_106, ft2_95, mtk2_95, msd2_106) hx hb hr hlk hS dX11_tried_123 hP hD (by show (t_2.toInt = 0 ∨ t_2.toInt = 1 ∨ t_2.toInt = 3) ∧ kt_r fa2_106 P_ (-1) (ml.toInt * mw.toInt - 1) ∧ kt_con fo2_106 fa2_106 P_ ∧ (0 ≤ msd2_106.toInt ∧ msd2_106.toInt ≤ 1); first | exact ⟨by omega, hfa, hco, hsd⟩ | exact ⟨Or.inr (Or.inr (by decide)), hfa, hco, hsd⟩)
          · have d_74 := c_74
            simp only [kt_lt, kt_le, kt_eq, kt_c0, kt_c1, kt_c2, kt_c3, kt_c4, kt_c8, kt_c9, kt_cm1, kt_c81, kt_c40, kt_c7, kt_c5, kt_c6, kt_c512, kt_c10, kt_c10000] at d_74
            refine lv_goto (tgt := 147) hx hb dX11_tried_77 (by decide) ?_
            refine lv_iinc (v := nI (j + 1)) (lv' := [(6, .int (nI (j + 1))), (5, .int (nI k)), (3, .int bl_), (2, .int t_2), (0, .ref mx), (1, .int p1)]) hx hb dX11_tried_147 hl (k := 0) rfl (nI_1 _) (by decide) rfl (fun ls hl => ?_)
            refine lv_goto (tgt := 28) hx hb dX11_tried_150 (by decide) ?_
            exact ih_28 ((j + 1), bl_, b1, b2, b3, btk, bsd) (by show ((j + 1) ≤ 32 ∧ 32 < (j + 1) + n_28) ∧ kt_r b1 P_ (-1) (ml.toInt * mw.toInt - 1) ∧ kt_con b2 b1 P_ ∧ (0 ≤ bsd.toInt ∧ bsd.toInt ≤ 1); exact ⟨by omega, hfa, hco, hsd⟩) H _ hP hD hS ls (lv_sub hl [0, 1, 2, 3, 4, 5] rfl)

theorem iw_X11_leads_X11 : ∀ w ∈ wsX110, w ∈ wsX11_leads := fun _ h => kt_wp_X11_leads__X110 h
set_option maxHeartbeats 4000000 in
set_option maxRecDepth 100000 in
theorem c_X11_leads (l : Launch) (D : va_G) (cI cZ cB : ClassId) (sz : Nat) (mx : Nat) (ms : Nat) (mk : Nat) (ma : Nat) (mo : Nat) (mg : Nat) (mm : Nat) (mt : Nat) (mn : Nat) (me : Nat) (mq : Nat) (mwo : Nat) (md : Nat) (mf : Nat) (mr : Nat) (ml : Int32) (mw : Int32) (mgl : Int32) (mhd : Int32) (mre : Int32) (mag : Int32) (mkt : Int32) (mho : Int32) (mpc : Int32) (msd : Int32) (mki : Int32) (mdn : Int32) (mun : Int32) (mtk : Int32) (msv : Int32) (P_ : Nat) (fa : Nat → Int32) (fo : Nat → Int32) (fr : Nat → Int32) (fk : Nat → Int32) (ft : Nat → Int32) (gw : Nat → Int32) (p1 : Int32) (p2 : Int32) (hml_ : 2 ≤ ml.toInt ∧ ml.toInt ≤ 9) (hmw : 2 ≤ mw.toInt ∧ mw.toInt ≤ 9) (hpc : (P_ : Int) = mpc.toInt ∧ P_ ≤ 40) (hfa : kt_r fa P_ (-1) (ml.toInt * mw.toInt - 1)) (hco : kt_con fo fa P_) (hsd : 0 ≤ msd.toInt ∧ msd.toInt ≤ 1) (hst_ : 2 * kt_pw (ml.toInt * mw.toInt + 1) P_ ≤ 10000) (hp1 : 0 ≤ p1.toInt) (hp2 : 0 ≤ p2.toInt ∧ p2.toInt < 32 * (P_ : Int)) : kt_Mi l yX11_leads wsX11_leads { frames := 4, cells := 0, slots := 0, locals := 93 } D (kt_ty cI cZ cB) [.ref mx, .int p1, .int p2] sz [(mx, .inr (11, [.int ml, .int mw, .ref ms, .int mgl, .int mhd, .int mre, .int mag, .int mkt, .int mho, .int mpc, .int msd, .int mki, .ref mk, .ref ma, .ref mo, .ref mg, .ref mm, .ref mt, .int mdn, .int mun, .ref mn, .int mtk, .ref me, .ref mq, .int msv, .ref mwo, .ref md, .ref mf, .ref mr])), (ma, .inl (cI, 40, .inl fa)), (mo, .inl (cI, 81, .inl fo)), (mg, .inl (cI, 81, .inl fr)), (mk, .inl (cI, 40, .inl fk)), (mn, .inl (cZ, 40, .inl ft))] (fun (r : Int32) (u : (Nat → Int32) × (Nat → Int32) × (Nat → Int32) × Int32 × Int32) => (-1 ≤ r.toInt ∧ r.toInt < 2 * kt_pw (ml.toInt * mw.toInt + 1) P_) ∧ kt_r u.1 P_ (-1) (ml.toInt * mw.toInt - 1) ∧ kt_con u.2.1 u.1 P_ ∧ (0 ≤ u.2.2.2.2.toInt ∧ u.2.2.2.2.toInt ≤ 1)) (fun (u : (Nat → Int32) × (Nat → Int32) × (Nat → Int32) × Int32 × Int32) => [(mx, .inr (11, [.int ml, .int mw, .ref ms, .int mgl, .int mhd, .int mre, .int mag, .int mkt, .int mho, .int mpc, .int u.2.2.2.2, .int mki, .ref mk, .ref ma, .ref mo, .ref mg, .ref mm, .ref mt, .int mdn, .int mun, .ref mn, .int u.2.2.2.1, .ref me, .ref mq, .int msv, .ref mwo, .ref md, .ref mf, .ref mr])), (ma, .inl (cI, 40, .inl u.1)), (mo, .inl (cI, 81, .inl u.2.1)), (mg, .inl (cI, 81, .inl fr)), (mk, .inl (cI, 40, .inl fk)), (mn, .inl (cZ, 40, .inl u.2.2.1))]) 0 0 := by
  refine kt_Mi.of (cc := cX11_leads) (maxL := 5) (ret := some .int) (by decide) rfl (Nat.le_of_ble_eq_true rfl) ?_
  intro p e s m below meth c A ls H hAt hP hD hS hl
  obtain ⟨hx, hb, hr, hml, hown, hts, hN, hK, hlk, hnm, hA⟩ := hAt
  have hl : lv_has ls 5 [(0, .ref mx), (1, .int p1), (2, .int p2)] := hl
  have hown : s.vm.findClass RX11 = some m.cls := hown
  have hsb := kt_mulb hml_ hmw
  have hpw1 := kt_pw_1 (B := (ml.toInt * mw.toInt + 1)) (by omega) P_
  refine lv_aload_n hx hb dX11_leads_0 rfl (lv_at hl 0 rfl) ?_
  refine lv_iload_n hx hb dX11_leads_1 rfl (lv_at hl 1 rfl) ?_
  refine kt_bi (wc := [(mx, .inr (11, [.int ml, .int mw, .ref ms, .int mgl, .int mhd, .int mre, .int mag, .int mkt, .int mho, .int mpc, .int msd, .int mki, .ref mk, .ref ma, .ref mo, .ref mg, .ref mm, .ref mt, .int mdn, .int mun, .ref mn, .int mtk, .ref me, .ref mq, .int msv, .ref mwo, .ref md, .ref mf, .ref mr])), (ma, .inl (cI, 40, .inl fa)), (mo, .inl (cI, 81, .inl fo)), (mg, .inl (cI, 81, .inl fr)), (mk, .inl (cI, 40, .inl fk))]) (wr := [(mn, .inl (cZ, 40, .inl ft))]) [0, 1, 2, 3, 4] [5] hP hD hS hA rfl rfl (by decide) (by decide) (by decide) (fun hPc hDc => va_runV (As := [.int p1]) (rest := []) ⟨hx, hb, hml, hown, hts⟩ (c_X11_setUp l D cI cZ cB H.size mx ms mk ma mo mg mm mt mn me mq mwo md mf mr ml mw mgl mhd mre mag mkt mho mpc msd mki mdn mun mtk msv P_ fa fo fr fk p1 (by first | assumption | omega | rfl | decide) (by first | assumption | omega | rfl | decide) (by first | assumption | omega | rfl | decide) (by first | assumption | omega | rfl | decide) (by first | assumption | omega | rfl | decide) (by first | assumption | omega | rfl | decide)) (cwV 1 hts gX11_leads_X11_setUp rfl rfl rfl (by decide +kernel) ⟨Nat.le_of_ble_eq_true rfl, Nat.le_of_ble_eq_true rfl⟩) (kt_preV hN hK hPc hDc 0 (ci := 11) (q := (RX11, TX11, 29)) rfl rfl) rfl rfl hl.1 rfl (lv_room (Nat.le_of_ble_eq_true rfl)) dX11_leads_2 ⟨Nat.le_of_ble_eq_true rfl, Nat.le_of_ble_eq_true rfl⟩) (fun r_2 u_ H locs hw_2 hP hD hS => ?_)
  obtain ⟨fa2_2, fo2_2, msd2_2⟩ := u_
  have hP : va_P D vwCl [(mx, .inr (11, [.int ml, .int mw, .ref ms, .int mgl, .int mhd, .int mre, .int mag, .int mkt, .int mho, .int mpc, .int msd2_2, .int mki, .ref mk, .ref ma, .ref mo, .ref mg, .ref mm, .ref mt, .int mdn, .int mun, .ref mn, .int mtk, .ref me, .ref mq, .int msv, .ref mwo, .ref md, .ref mf, .ref mr])), (ma, .inl (cI, 40, .inl fa2_2)), (mo, .inl (cI, 81, .inl fo2_2)), (mg, .inl (cI, 81, .inl fr)), (mk, .inl (cI, 40, .inl fk)), (mn, .inl (cZ, 40, .inl ft))] H := hP.sub [1, 2, 3, 4, 5, 0] rfl
  have hD : va_D A [(mx, .inr (11, [.int ml, .int mw, .ref ms, .int mgl, .int mhd, .int mre, .int mag, .int mkt, .int mho, .int mpc, .int msd2_2, .int mki, .ref mk, .ref ma, .ref mo, .ref mg, .ref mm, .ref mt, .int mdn, .int mun, .ref mn, .int mtk, .ref me, .ref mq, .int msv, .ref mwo, .ref md, .ref mf, .ref mr])), (ma, .inl (cI, 40, .inl fa2_2)), (mo, .inl (cI, 81, .inl fo2_2)), (mg, .inl (cI, 81, .inl fr)), (mk, .inl (cI, 40, .inl fk)), (mn, .inl (cZ, 40, .inl ft))] := hD.sub [1, 2, 3, 4, 5, 0] (by decide) rfl
  try dsimp only at hw_2
  obtain ⟨hr_, hfa, hco, hsd⟩ := hw_2
  refine lv_istore_n (lv' := [(3, .int r_2), (0, .ref mx), (1, .int p1), (2, .int p2)]) hx hb dX11_leads_5 rfl hl (by decide) rfl (fun ls hl => ?_)
  refine lv_iload_n hx hb dX11_leads_6 rfl (lv_at hl 3 rfl) ?_
  refine lv_bipush (v := 32) hx hb dX11_leads_7 (by decide) ?_
  refine lv_idiv hx hb dX11_leads_9 (by decide) ?_
  refine lv_topi (fun t_9 et_9 => ?_)
  have hk_9 := kt_divk et_9 (by omega) (by decide)
  rw [show (32 : Int32).toInt = 32 by decide] at hk_9
  refine lv_istore (lv' := [(4, .int t_9), (3, .int r_2), (0, .ref mx), (1, .int p1), (2, .int p2)]) hx hb dX11_leads_10 hl (by decide) rfl (fun ls hl => ?_)
  refine lv_aload_n hx hb dX11_leads_12 rfl (lv_at hl 2 rfl) ?_
  refine va_get (D := D) (ci := 11) (C := RX11) (T := TX11) (N := 29) hx hb hts iw_X11_leads_X11 hown hK hP 0 rfl rfl 13 (by decide) (hts (.fieldLink RX11 30 "KingTableModel" "at" "[I") (kt_wp_X11_leads__X11_leads_r1 kt_wm0)) (fun _ h9 => h9) rfl dX11_leads_13 ?_
  refine lv_iload hx hb dX11_leads_16 (lv_at hl 0 rfl) ?_
  have hi_1 : vp_in t_9 40 := by exact kt_in (by omega) (by omega)
  refine va_iald hx hb hK hP 1 0 rfl rfl hi_1 dX11_leads_18 ?_
  refine lv_topi (fun a_18 ea_18 => ?_)
  have hra := hfa.get (kt_in (x := t_9) (n := P_) (by omega) (by omega))
  rw [← ea_18] at hra
  have hxe : a_18.toInt = (fa2_2 t_9.toNatClampNeg).toInt := by rw [ea_18]
  refine lv_iconst (v := (-1)) hx hb dX11_leads_19 (by decide) ?_
  refine lv_icmp_eq (tgt := 57) hx hb dX11_leads_20 (by decide) (fun c_20 => ?_) (fun c_20 => ?_)
  · have d_20 := c_20
    simp only [kt_lt, kt_le, kt_eq, kt_c0, kt_c1, kt_c2, kt_c3, kt_c4, kt_c8, kt_c9, kt_cm1, kt_c81, kt_c40, kt_c7, kt_c5, kt_c6, kt_c512, kt_c10, kt_c10000] at d_20
    refine lv_iconst (v := (-1)) hx hb dX11_leads_57 (by decide) ?_
    exact kt_ri (fa2_2, fo2_2, ft, mtk, msd2_2) hx hb hr hlk hS dX11_leads_58 hP hD (by show (-1 ≤ (-1 : Int32).toInt ∧ (-1 : Int32).toInt < 2 * kt_pw (ml.toInt * mw.toInt + 1) P_) ∧ kt_r fa2_2 P_ (-1) (ml.toInt * mw.toInt - 1) ∧ kt_con fo2_2 fa2_2 P_ ∧ (0 ≤ msd2_2.toInt ∧ msd2_2.toInt ≤ 1); first | exact ⟨by omega, hfa, hco, hsd⟩ | exact ⟨⟨by decide, by rw [kt_cm1]; omega⟩, hfa, hco, hsd⟩)
  · have d_20 := c_20
    simp only [kt_lt, kt_le, kt_eq, kt_c0, kt_c1, kt_c2, kt_c3, kt_c4, kt_c8, kt_c9, kt_cm1, kt_c81, kt_c40, kt_c7, kt_c5, kt_c6, kt_c512, kt_c10, kt_c10000] at d_20
    refine lv_aload_n hx hb dX11_leads_23 rfl (lv_at hl 2 rfl) ?_
    refine lv_iload hx hb dX11_leads_24 (lv_at hl 0 rfl) ?_
    refine kt_pi (wc := [(mx, .inr (11, [.int ml, .int mw, .ref ms, .int mgl, .int mhd, .int mre, .int mag, .int mkt, .int mho, .int mpc, .int msd2_2, .int mki, .ref mk, .ref ma, .ref mo, .ref mg, .ref mm, .ref mt, .int mdn, .int mun, .ref mn, .int mtk, .ref me, .ref mq, .int msv, .ref mwo, .ref md, .ref mf, .ref mr])), (mk, .inl (cI, 40, .inl fk))]) [0, 4] hP hD hS hA rfl (by decide) (fun hPc hDc => va_runV (As := [.int t_9]) (rest := []) ⟨hx, hb, hml, hown, hts⟩ (c_X11_sideOf l D cI cZ cB H.size mx ms mk ma mo mg mm mt mn me mq mwo md mf mr ml mw mgl mhd mre mag mkt mho mpc msd2_2 mki mdn mun mtk msv fk t_9 (by first | assumption | omega | rfl | decide)) (cwV 1 hts gX11_leads_X11_sideOf rfl rfl rfl (by decide +kernel) ⟨Nat.le_of_ble_eq_true rfl, Nat.le_of_ble_eq_true rfl⟩) (kt_preV hN hK hPc hDc 0 (ci := 11) (q := (RX11, TX11, 29)) rfl rfl) rfl rfl hl.1 rfl (lv_room (Nat.le_of_ble_eq_true rfl)) dX11_leads_26 ⟨Nat.le_of_ble_eq_true rfl, Nat.le_of_ble_eq_true rfl⟩) (fun r_26 _ H locs hw_26 hP hS => ?_)
    refine lv_aload_n hx hb dX11_leads_29 rfl (lv_at hl 2 rfl) ?_
    refine va_get (D := D) (ci := 11) (C := RX11) (T := TX11) (N := 29) hx hb hts iw_X11_leads_X11 hown hK hP 0 rfl rfl 10 (by decide) (hts (.fieldLink RX11 126 "KingTableModel" "side" "I") (kt_wp_X11_leads__X11_leads_r1 kt_wm1)) (fun _ h9 => h9) rfl dX11_leads_30 ?_
    refine lv_icmp_ne (tgt := 57) hx hb dX11_leads_33 (by decide) (fun c_33 => ?_) (fun c_33 => ?_)
    · have d_33 := c_33
      simp only [kt_lt, kt_le, kt_eq, kt_c0, kt_c1, kt_c2, kt_c3, kt_c4, kt_c8, kt_c9, kt_cm1, kt_c81, kt_c40, kt_c7, kt_c5, kt_c6, kt_c512, kt_c10, kt_c10000] at d_33
      refine lv_iconst (v := (-1)) hx hb dX11_leads_57 (by decide) ?_
      exact kt_ri (fa2_2, fo2_2, ft, mtk, msd2_2) hx hb hr hlk hS dX11_leads_58 hP hD (by show (-1 ≤ (-1 : Int32).toInt ∧ (-1 : Int32).toInt < 2 * kt_pw (ml.toInt * mw.toInt + 1) P_) ∧ kt_r fa2_2 P_ (-1) (ml.toInt * mw.toInt - 1) ∧ kt_con fo2_2 fa2_2 P_ ∧ (0 ≤ msd2_2.toInt ∧ msd2_2.toInt ≤ 1); first | exact ⟨by omega, hfa, hco, hsd⟩ | exact ⟨⟨by decide, by rw [kt_cm1]; omega⟩, hfa, hco, hsd⟩)
    · have d_33 := c_33
      simp only [kt_lt, kt_le, kt_eq, kt_c0, kt_c1, kt_c2, kt_c3, kt_c4, kt_c8, kt_c9, kt_cm1, kt_c81, kt_c40, kt_c7, kt_c5, kt_c6, kt_c512, kt_c10, kt_c10000] at d_33
      refine lv_aload_n hx hb dX11_leads_36 rfl (lv_at hl 2 rfl) ?_
      refine lv_iload hx hb dX11_leads_37 (lv_at hl 0 rfl) ?_
      refine lv_iload_n hx hb dX11_leads_39 rfl (lv_at hl 4 rfl) ?_
      refine lv_bipush (v := 8) hx hb dX11_leads_40 (by decide) ?_
      refine lv_idiv hx hb dX11_leads_42 (by decide) ?_
      refine lv_topi (fun t_42 et_42 => ?_)
      have hk_42 := kt_divk et_42 (by omega) (by decide)
      rw [show (8 : Int32).toInt = 8 by decide] at hk_42
      refine lv_iconst (v := 4) hx hb dX11_leads_43 (by decide) ?_
      refine lv_irem hx hb dX11_leads_44 (by decide) ?_
      refine lv_topi (fun t_44 et_44 => ?_)
      have hk_44 := kt_remk et_44 (by omega) (by decide)
      rw [show (4 : Int32).toInt = 4 by decide] at hk_44
      refine lv_iload_n hx hb dX11_leads_45 rfl (lv_at hl 4 rfl) ?_
      refine lv_bipush (v := 8) hx hb dX11_leads_46 (by decide) ?_
      refine lv_irem hx hb dX11_leads_48 (by decide) ?_
      refine lv_topi (fun t_48 et_48 => ?_)
      have hk_48 := kt_remk et_48 (by omega) (by decide)
      rw [show (8 : Int32).toInt = 8 by decide] at hk_48
      refine lv_iconst (v := 1) hx hb dX11_leads_49 (by decide) ?_
      refine lv_iadd hx hb dX11_leads_50 ?_
      refine lv_topi (fun t_50 et_50 => ?_)
      first | have hk_50 := kt_addx et_50 (by first | omega | (simp only [kt_c0, kt_c1, kt_c2, kt_c3, kt_c4, kt_c8, kt_c9, kt_cm1, kt_c81, kt_c40, kt_c7, kt_c5, kt_c6, kt_c512, kt_c10, kt_c10000]; omega)) (by first | omega | (simp only [kt_c0, kt_c1, kt_c2, kt_c3, kt_c4, kt_c8, kt_c9, kt_cm1, kt_c81, kt_c40, kt_c7, kt_c5, kt_c6, kt_c512, kt_c10, kt_c10000]; omega)) | obtain ⟨k_50, hk_50, hm_50, hM_50⟩ := kt_addk et_50
      try simp only [kt_c0, kt_c1, kt_c2, kt_c3, kt_c4, kt_c8, kt_c9, kt_cm1, kt_c81, kt_c40, kt_c7, kt_c5, kt_c6, kt_c512, kt_c10, kt_c10000] at hk_50
      refine kt_pi (wc := [(mx, .inr (11, [.int ml, .int mw, .ref ms, .int mgl, .int mhd, .int mre, .int mag, .int mkt, .int mho, .int mpc, .int msd2_2, .int mki, .ref mk, .ref ma, .ref mo, .ref mg, .ref mm, .ref mt, .int mdn, .int mun, .ref mn, .int mtk, .ref me, .ref mq, .int msv, .ref mwo, .ref md, .ref mf, .ref mr])), (ma, .inl (cI, 40, .inl fa2_2)), (mo, .inl (cI, 81, .inl fo2_2)), (mg, .inl (cI, 81, .inl fr)), (mk, .inl (cI, 40, .inl fk))]) [0, 1, 2, 3, 4] hP hD hS hA rfl (by decide) (fun hPc hDc => va_runV (As := [.int t_9, .int t_44, .int t_50]) (rest := []) ⟨hx, hb, hml, hown, hts⟩ (c_X11_bar l D cI cZ cB H.size mx ms mk ma mo mg mm mt mn me mq mwo md mf mr ml mw mgl mhd mre mag mkt mho mpc msd2_2 mki mdn mun mtk msv P_ fa2_2 fo2_2 fr fk t_9 t_44 t_50 hml_ hmw hpc hfa (hco.r (by omega)) (by omega) (by omega) (by omega)) (cwV 3 hts gX11_leads_X11_bar rfl rfl rfl (by decide +kernel) ⟨Nat.le_of_ble_eq_true rfl, Nat.le_of_ble_eq_true rfl⟩) (kt_preV hN hK hPc hDc 0 (ci := 11) (q := (RX11, TX11, 29)) rfl rfl) rfl rfl hl.1 rfl (lv_room (Nat.le_of_ble_eq_true rfl)) dX11_leads_51 ⟨Nat.le_of_ble_eq_true rfl, Nat.le_of_ble_eq_true rfl⟩) (fun r_51 _ H locs hw_51 hP hS => ?_)
      refine lv_if_eq (tgt := 59) hx hb dX11_leads_54 (by decide) (fun c_54 => ?_) (fun c_54 => ?_)
      · have d_54 := c_54
        simp only [kt_lt, kt_le, kt_eq, kt_c0, kt_c1, kt_c2, kt_c3, kt_c4, kt_c8, kt_c9, kt_cm1, kt_c81, kt_c40, kt_c7, kt_c5, kt_c6, kt_c512, kt_c10, kt_c10000] at d_54
        refine lv_aload_n hx hb dX11_leads_59 rfl (lv_at hl 2 rfl) ?_
        refine lv_iload hx hb dX11_leads_60 (lv_at hl 0 rfl) ?_
        refine lv_iload_n hx hb dX11_leads_62 rfl (lv_at hl 4 rfl) ?_
        refine lv_bipush (v := 8) hx hb dX11_leads_63 (by decide) ?_
        refine lv_idiv hx hb dX11_leads_65 (by decide) ?_
        refine lv_topi (fun t_65 et_65 => ?_)
        have hk_65 := kt_divk et_65 (by omega) (by decide)
        rw [show (8 : Int32).toInt = 8 by decide] at hk_65
        refine lv_iconst (v := 4) hx hb dX11_leads_66 (by decide) ?_
        refine lv_irem hx hb dX11_leads_67 (by decide) ?_
        refine lv_topi (fun t_67 et_67 => ?_)
        have hk_67 := kt_remk et_67 (by omega) (by decide)
        rw [show (4 : Int32).toInt = 4 by decide] at hk_67
        refine lv_iload_n hx hb dX11_leads_68 rfl (lv_at hl 4 rfl) ?_
        refine lv_bipush (v := 8) hx hb dX11_leads_69 (by decide) ?_
        refine lv_irem hx hb dX11_leads_71 (by decide) ?_
        refine lv_topi (fun t_71 et_71 => ?_)
        have hk_71 := kt_remk et_71 (by omega) (by decide)
        rw [show (8 : Int32).toInt = 8 by decide] at hk_71
        refine lv_iconst (v := 1) hx hb dX11_leads_72 (by decide) ?_
        refine lv_iadd hx hb dX11_leads_73 ?_
        refine lv_topi (fun t_73 et_73 => ?_)
        first | have hk_73 := kt_addx et_73 (by first | omega | (simp only [kt_c0, kt_c1, kt_c2, kt_c3, kt_c4, kt_c8, kt_c9, kt_cm1, kt_c81, kt_c40, kt_c7, kt_c5, kt_c6, kt_c512, kt_c10, kt_c10000]; omega)) (by first | omega | (simp only [kt_c0, kt_c1, kt_c2, kt_c3, kt_c4, kt_c8, kt_c9, kt_cm1, kt_c81, kt_c40, kt_c7, kt_c5, kt_c6, kt_c512, kt_c10, kt_c10000]; omega)) | obtain ⟨k_73, hk_73, hm_73, hM_73⟩ := kt_addk et_73
        try simp only [kt_c0, kt_c1, kt_c2, kt_c3, kt_c4, kt_c8, kt_c9, kt_cm1, kt_c81, kt_c40, kt_c7, kt_c5, kt_c6, kt_c512, kt_c10, kt_c10000] at hk_73
        refine kt_bv (wc := [(mx, .inr (11, [.int ml, .int mw, .ref ms, .int mgl, .int mhd, .int mre, .int mag, .int mkt, .int mho, .int mpc, .int msd2_2, .int mki, .ref mk, .ref ma, .ref mo, .ref mg, .ref mm, .ref mt, .int mdn, .int mun, .ref mn, .int mtk, .ref me, .ref mq, .int msv, .ref mwo, .ref md, .ref mf, .ref mr])), (ma, .inl (cI, 40, .inl fa2_2)), (mo, .inl (cI, 81, .inl fo2_2)), (mg, .inl (cI, 81, .inl fr)), (mk, .inl (cI, 40, .inl fk)), (mn, .inl (cZ, 40, .inl ft))]) (wr := []) [0, 1, 2, 3, 4, 5] [] hP hD hS hA rfl rfl (by decide) (by decide) (by decide) (fun hPc hDc => va_runV (As := [.int t_9, .int t_67, .int t_73]) (rest := []) ⟨hx, hb, hml, hown, hts⟩ (c_X11_make l D cI cZ cB H.size mx ms mk ma mo mg mm mt mn me mq mwo md mf mr ml mw mgl mhd mre mag mkt mho mpc msd2_2 mki mdn mun mtk msv P_ fa2_2 fo2_2 fr fk ft t_9 t_67 t_73 hml_ hmw hpc hfa hco (by omega) (by omega) (by omega) (by have := hw_51.2 (by omega); rw [hk_73, hk_71, hk_67, hk_65]; rw [hk_50, hk_48, hk_44, hk_42] at this; exact this) hsd) (cwV 3 hts gX11_leads_X11_make rfl rfl rfl (by decide +kernel) ⟨Nat.le_of_ble_eq_true rfl, Nat.le_of_ble_eq_true rfl⟩) (kt_preV hN hK hPc hDc 0 (ci := 11) (q := (RX11, TX11, 29)) rfl rfl) rfl rfl hl.1 rfl (lv_room (Nat.le_of_ble_eq_true rfl)) dX11_leads_74 ⟨Nat.le_of_ble_eq_true rfl, Nat.le_of_ble_eq_true rfl⟩) (fun u_ H locs hw_74 hP hD hS => ?_)
        obtain ⟨fa2_74, fo2_74, ft2_74, mtk2_74, msd2_74⟩ := u_
        have hP : va_P D vwCl [(mx, .inr (11, [.int ml, .int mw, .ref ms, .int mgl, .int mhd, .int mre, .int mag, .int mkt, .int mho, .int mpc, .int msd2_74, .int mki, .ref mk, .ref ma, .ref mo, .ref mg, .ref mm, .ref mt, .int mdn, .int mun, .ref mn, .int mtk2_74, .ref me, .ref mq, .int msv, .ref mwo, .ref md, .ref mf, .ref mr])), (ma, .inl (cI, 40, .inl fa2_74)), (mo, .inl (cI, 81, .inl fo2_74)), (mg, .inl (cI, 81, .inl fr)), (mk, .inl (cI, 40, .inl fk)), (mn, .inl (cZ, 40, .inl ft2_74))] H := hP.sub [0, 1, 2, 3, 4, 5] rfl
        have hD : va_D A [(mx, .inr (11, [.int ml, .int mw, .ref ms, .int mgl, .int mhd, .int mre, .int mag, .int mkt, .int mho, .int mpc, .int msd2_74, .int mki, .ref mk, .ref ma, .ref mo, .ref mg, .ref mm, .ref mt, .int mdn, .int mun, .ref mn, .int mtk2_74, .ref me, .ref mq, .int msv, .ref mwo, .ref md, .ref mf, .ref mr])), (ma, .inl (cI, 40, .inl fa2_74)), (mo, .inl (cI, 81, .inl fo2_74)), (mg, .inl (cI, 81, .inl fr)), (mk, .inl (cI, 40, .inl fk)), (mn, .inl (cZ, 40, .inl ft2_74))] := hD.sub [0, 1, 2, 3, 4, 5] (by decide) rfl
        try dsimp only at hw_74
        obtain ⟨hfa, hco, hsd⟩ := hw_74
        refine lv_aload_n hx hb dX11_leads_77 rfl (lv_at hl 2 rfl) ?_
        refine kt_pi (wc := [(mx, .inr (11, [.int ml, .int mw, .ref ms, .int mgl, .int mhd, .int mre, .int mag, .int mkt, .int mho, .int mpc, .int msd2_74, .int mki, .ref mk, .ref ma, .ref mo, .ref mg, .ref mm, .ref mt, .int mdn, .int mun, .ref mn, .int mtk2_74, .ref me, .ref mq, .int msv, .ref mwo, .ref md, .ref mf, .ref mr])), (ma, .inl (cI, 40, .inl fa2_74))]) [0, 1] hP hD hS hA rfl (by decide) (fun hPc hDc => va_runV (As := []) (rest := []) ⟨hx, hb, hml, hown, hts⟩ (c_X11_number l D cI cZ cB H.size mx ms mk ma mo mg mm mt mn me mq mwo md mf mr ml mw mgl mhd mre mag mkt mho mpc msd2_74 mki mdn mun mtk2_74 msv P_ fa2_74 hml_ hmw hpc hfa hst_ hsd) (cwV 0 hts gX11_leads_X11_number rfl rfl rfl (by decide +kernel) ⟨Nat.le_of_ble_eq_true rfl, Nat.le_of_ble_eq_true rfl⟩) (kt_preV hN hK hPc hDc 0 (ci := 11) (q := (RX11, TX11, 29)) rfl rfl) rfl rfl hl.1 rfl (lv_room (Nat.le_of_ble_eq_true rfl)) dX11_leads_78 ⟨Nat.le_of_ble_eq_true rfl, Nat.le_of_ble_eq_true rfl⟩) (fun r_78 _ H locs hw_78 hP hS => ?_)
        have hto := hw_78
        exact kt_ri (fa2_74, fo2_74, ft2_74, mtk2_74, msd2_74) hx hb hr hlk hS dX11_leads_81 hP hD (by show (-1 ≤ r_78.toInt ∧ r_78.toInt < 2 * kt_pw (ml.toInt * mw.toInt + 1) P_) ∧ kt_r fa2_74 P_ (-1) (ml.toInt * mw.toInt - 1) ∧ kt_con fo2_74 fa2_74 P_ ∧ (0 ≤ msd2_74.toInt ∧ msd2_74.toInt ≤ 1); first | exact ⟨by omega, hfa, hco, hsd⟩ | exact ⟨⟨by decide, by rw [kt_cm1]; omega⟩, hfa, hco, hsd⟩)
      · have d_54 := c_54
        simp only [kt_lt, kt_le, kt_eq, kt_c0, kt_c1, kt_c2, kt_c3, kt_c4, kt_c8, kt_c9, kt_cm1, kt_c81, kt_c40, kt_c7, kt_c5, kt_c6, kt_c512, kt_c10, kt_c10000] at d_54
        refine lv_iconst (v := (-1)) hx hb dX11_leads_57 (by decide) ?_
        exact kt_ri (fa2_2, fo2_2, ft, mtk, msd2_2) hx hb hr hlk hS dX11_leads_58 hP hD (by show (-1 ≤ (-1 : Int32).toInt ∧ (-1 : Int32).toInt < 2 * kt_pw (ml.toInt * mw.toInt + 1) P_) ∧ kt_r fa2_2 P_ (-1) (ml.toInt * mw.toInt - 1) ∧ kt_con fo2_2 fa2_2 P_ ∧ (0 ≤ msd2_2.toInt ∧ msd2_2.toInt ≤ 1); first | exact ⟨by omega, hfa, hco, hsd⟩ | exact ⟨⟨by decide, by rw [kt_cm1]; omega⟩, hfa, hco, hsd⟩)
