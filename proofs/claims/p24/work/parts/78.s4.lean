set_option maxHeartbeats 4000000 in
set_option maxRecDepth 100000 in
theorem c_X11_leadsX (l : Launch) (D : va_G) (cI cZ cB : ClassId) (sz : Nat) (mx : Nat) (ms : Nat) (mk : Nat) (ma : Nat) (mo : Nat) (mg : Nat) (mm : Nat) (mt : Nat) (mn : Nat) (me : Nat) (mq : Nat) (mwo : Nat) (md : Nat) (mf : Nat) (mr : Nat) (ml : Int32) (mw : Int32) (mgl : Int32) (mhd : Int32) (mre : Int32) (mag : Int32) (mkt : Int32) (mho : Int32) (mpc : Int32) (msd : Int32) (mki : Int32) (mdn : Int32) (mun : Int32) (mtk : Int32) (msv : Int32) (P_ : Nat) (fa : Nat → Int32) (fo : Nat → Int32) (fr : Nat → Int32) (fk : Nat → Int32) (ft : Nat → Int32) (gw : Nat → Int32) (p1 : Int32) (p2 : Int32) (hml_ : 2 ≤ ml.toInt ∧ ml.toInt ≤ 9) (hmw : 2 ≤ mw.toInt ∧ mw.toInt ≤ 9) (hpc : (P_ : Int) = mpc.toInt ∧ P_ ≤ 40) (hfa : kt_r fa P_ (-1) (ml.toInt * mw.toInt - 1)) (hco : kt_con fo fa P_) (hsd : 0 ≤ msd.toInt ∧ msd.toInt ≤ 1) (hst_ : 2 * kt_pw (ml.toInt * mw.toInt + 1) P_ ≤ 10000) (hp1 : 0 ≤ p1.toInt) (hp2 : 0 ≤ p2.toInt ∧ p2.toInt < 32 * (P_ : Int)) (hgd : kt_gdp (ml.toInt * mw.toInt) fr fk (fun p => ((kt_dg ((ml.toInt * mw.toInt).toNat + 1) (p1.toInt.toNat / 2) p : Nat) : Int)) P_) : kt_Mi l yX11_leads wsX11_leads { frames := 4, cells := 0, slots := 0, locals := 93 } D (kt_ty cI cZ cB) [.ref mx, .int p1, .int p2] sz [(mx, .inr (11, [.int ml, .int mw, .ref ms, .int mgl, .int mhd, .int mre, .int mag, .int mkt, .int mho, .int mpc, .int msd, .int mki, .ref mk, .ref ma, .ref mo, .ref mg, .ref mm, .ref mt, .int mdn, .int mun, .ref mn, .int mtk, .ref me, .ref mq, .int msv, .ref mwo, .ref md, .ref mf, .ref mr])), (ma, .inl (cI, 40, .inl fa)), (mo, .inl (cI, 81, .inl fo)), (mg, .inl (cI, 81, .inl fr)), (mk, .inl (cI, 40, .inl fk)), (mn, .inl (cZ, 40, .inl ft))] (fun (r : Int32) (u : (Nat → Int32) × (Nat → Int32) × (Nat → Int32) × Int32 × Int32) => (((kt_mvs P_ mw.toInt ml.toInt fr fk mre.toInt (kt_po ((ml.toInt * mw.toInt).toNat + 1) P_ (p1.toInt.toNat / 2)) ((p1.toInt.toNat % 2 : Nat) : Int)) p2.toInt.toNat ∧ r.toInt = (((kt_suc ((ml.toInt * mw.toInt).toNat + 1) P_ mw.toInt ml.toInt fr fk mkt mhd (kt_po ((ml.toInt * mw.toInt).toNat + 1) P_ (p1.toInt.toNat / 2)) (p1.toInt.toNat % 2)) p2.toInt.toNat : Nat) : Int)) ∨ (¬ (kt_mvs P_ mw.toInt ml.toInt fr fk mre.toInt (kt_po ((ml.toInt * mw.toInt).toNat + 1) P_ (p1.toInt.toNat / 2)) ((p1.toInt.toNat % 2 : Nat) : Int)) p2.toInt.toNat ∧ r.toInt = -1)) ∧ (-1 ≤ r.toInt ∧ r.toInt < 2 * kt_pw (ml.toInt * mw.toInt + 1) P_) ∧ kt_r u.1 P_ (-1) (ml.toInt * mw.toInt - 1) ∧ kt_con u.2.1 u.1 P_ ∧ (0 ≤ u.2.2.2.2.toInt ∧ u.2.2.2.2.toInt ≤ 1)) (fun (u : (Nat → Int32) × (Nat → Int32) × (Nat → Int32) × Int32 × Int32) => [(mx, .inr (11, [.int ml, .int mw, .ref ms, .int mgl, .int mhd, .int mre, .int mag, .int mkt, .int mho, .int mpc, .int u.2.2.2.2, .int mki, .ref mk, .ref ma, .ref mo, .ref mg, .ref mm, .ref mt, .int mdn, .int mun, .ref mn, .int u.2.2.2.1, .ref me, .ref mq, .int msv, .ref mwo, .ref md, .ref mf, .ref mr])), (ma, .inl (cI, 40, .inl u.1)), (mo, .inl (cI, 81, .inl u.2.1)), (mg, .inl (cI, 81, .inl fr)), (mk, .inl (cI, 40, .inl fk)), (mn, .inl (cZ, 40, .inl u.2.2.1))]) 0 0 := by
  refine kt_Mi.of (cc := cX11_leads) (maxL := 5) (ret := some .int) (by decide) rfl (Nat.le_of_ble_eq_true rfl) ?_
  intro p e s m below meth c A ls H hAt hP hD hS hl
  obtain ⟨hx, hb, hr, hml, hown, hts, hN, hK, hlk, hnm, hA⟩ := hAt
  have hl : lv_has ls 5 [(0, .ref mx), (1, .int p1), (2, .int p2)] := hl
  have hown : s.vm.findClass RX11 = some m.cls := hown
  have hsb := kt_mulb hml_ hmw
  have hBR : ((((ml.toInt * mw.toInt).toNat + 1) : Nat) : Int) = ml.toInt * mw.toInt + 1 := by omega
  have hV : (p1.toInt / 2).toNat = (p1.toInt.toNat / 2) := by omega
  have hpoc : kt_cut P_ (kt_po ((ml.toInt * mw.toInt).toNat + 1) P_ (p1.toInt.toNat / 2)) = (kt_po ((ml.toInt * mw.toInt).toNat + 1) P_ (p1.toInt.toNat / 2)) := kt_po_cut _ _ _
  have hpov := fun j hj => kt_po_v (B := ((ml.toInt * mw.toInt).toNat + 1)) (P := P_) (v := (p1.toInt.toNat / 2)) (by omega) (by omega) j hj
  have hpw1 := kt_pw_1 (B := (ml.toInt * mw.toInt + 1)) (by omega) P_
  refine lv_aload_n hx hb dX11_leads_0 rfl (lv_at hl 0 rfl) ?_
  refine lv_iload_n hx hb dX11_leads_1 rfl (lv_at hl 1 rfl) ?_
  refine kt_bi (wc := [(mx, .inr (11, [.int ml, .int mw, .ref ms, .int mgl, .int mhd, .int mre, .int mag, .int mkt, .int mho, .int mpc, .int msd, .int mki, .ref mk, .ref ma, .ref mo, .ref mg, .ref mm, .ref mt, .int mdn, .int mun, .ref mn, .int mtk, .ref me, .ref mq, .int msv, .ref mwo, .ref md, .ref mf, .ref mr])), (ma, .inl (cI, 40, .inl fa)), (mo, .inl (cI, 81, .inl fo)), (mg, .inl (cI, 81, .inl fr)), (mk, .inl (cI, 40, .inl fk))]) (wr := [(mn, .inl (cZ, 40, .inl ft))]) [0, 1, 2, 3, 4] [5] hP hD hS hA rfl rfl (by decide) (by decide) (by decide) (fun hPc hDc => va_runV (As := [.int p1]) (rest := []) ⟨hx, hb, hml, hown, hts⟩ (c_X11_setUpX l D cI cZ cB H.size mx ms mk ma mo mg mm mt mn me mq mwo md mf mr ml mw mgl mhd mre mag mkt mho mpc msd mki mdn mun mtk msv P_ fa fo fr fk p1 (by first | assumption | omega | rfl | decide) (by first | assumption | omega | rfl | decide) (by first | assumption | omega | rfl | decide) (by first | assumption | omega | rfl | decide) (by first | assumption | omega | rfl | decide) (by first | assumption | omega | rfl | decide)) (cwV 1 hts gX11_leads_X11_setUp rfl rfl rfl (by decide +kernel) ⟨Nat.le_of_ble_eq_true rfl, Nat.le_of_ble_eq_true rfl⟩) (kt_preV hN hK hPc hDc 0 (ci := 11) (q := (RX11, TX11, 29)) rfl rfl) rfl rfl hl.1 rfl (lv_room (Nat.le_of_ble_eq_true rfl)) dX11_leads_2 ⟨Nat.le_of_ble_eq_true rfl, Nat.le_of_ble_eq_true rfl⟩) (fun r_2 u_ H locs hw_2 hP hD hS => ?_)
  obtain ⟨fa2_2, fo2_2, msd2_2⟩ := u_
  have hP : va_P D vwCl [(mx, .inr (11, [.int ml, .int mw, .ref ms, .int mgl, .int mhd, .int mre, .int mag, .int mkt, .int mho, .int mpc, .int msd2_2, .int mki, .ref mk, .ref ma, .ref mo, .ref mg, .ref mm, .ref mt, .int mdn, .int mun, .ref mn, .int mtk, .ref me, .ref mq, .int msv, .ref mwo, .ref md, .ref mf, .ref mr])), (ma, .inl (cI, 40, .inl fa2_2)), (mo, .inl (cI, 81, .inl fo2_2)), (mg, .inl (cI, 81, .inl fr)), (mk, .inl (cI, 40, .inl fk)), (mn, .inl (cZ, 40, .inl ft))] H := hP.sub [1, 2, 3, 4, 5, 0] rfl
  have hD : va_D A [(mx, .inr (11, [.int ml, .int mw, .ref ms, .int mgl, .int mhd, .int mre, .int mag, .int mkt, .int mho, .int mpc, .int msd2_2, .int mki, .ref mk, .ref ma, .ref mo, .ref mg, .ref mm, .ref mt, .int mdn, .int mun, .ref mn, .int mtk, .ref me, .ref mq, .int msv, .ref mwo, .ref md, .ref mf, .ref mr])), (ma, .inl (cI, 40, .inl fa2_2)), (mo, .inl (cI, 81, .inl fo2_2)), (mg, .inl (cI, 81, .inl fr)), (mk, .inl (cI, 40, .inl fk)), (mn, .inl (cZ, 40, .inl ft))] := hD.sub [1, 2, 3, 4, 5, 0] (by decide) rfl
  try dsimp only at hw_2
  obtain ⟨hr_, hfa, hco, hsd, hsB, hms, hpos0, hcc0⟩ := hw_2
  rw [hV] at hsB hpos0
  have hcc := hcc0 (hsB.elim (fun h => h.1) (fun h => absurd hgd h.2))
  have hpos : ∀ q, q < P_ → fa2_2 q = (kt_po ((ml.toInt * mw.toInt).toNat + 1) P_ (p1.toInt.toNat / 2)) q := fun q hq => by rw [hpos0 q hq, kt_po_if hBR hq]
  have hms2 : msd2_2.toInt = ((p1.toInt.toNat % 2 : Nat) : Int) := by omega
  refine lv_istore_n (lv' := [(3, .int r_2), (0, .ref mx), (1, .int p1), (2, .int p2)]) hx hb dX11_leads_5 rfl hl (by decide) rfl (fun ls hl => ?_)
  refine lv_iload_n hx hb dX11_leads_6 rfl (lv_at hl 3 rfl) ?_
  refine lv_bipush (v := 32) hx hb dX11_leads_7 (by decide) ?_
  refine lv_idiv hx hb dX11_leads_9 (by decide) ?_
  refine lv_topi (fun t_9 et_9 => ?_)
  have hk_9 := kt_divk et_9 (by omega) (by decide)
  rw [show (32 : Int32).toInt = 32 by decide] at hk_9
  refine lv_istore (lv' := [(4, .int t_9), (3, .int r_2), (0, .ref mx), (1, .int p1), (2, .int p2)]) hx hb dX11_leads_10 hl (by decide) rfl (fun ls hl => ?_)
  have hKP : t_9.toInt.toNat < P_ := by omega
  have hmvi : (kt_mvs P_ mw.toInt ml.toInt fr fk mre.toInt (kt_po ((ml.toInt * mw.toInt).toNat + 1) P_ (p1.toInt.toNat / 2)) ((p1.toInt.toNat % 2 : Nat) : Int)) p2.toInt.toNat ↔ ¬ (kt_po ((ml.toInt * mw.toInt).toNat + 1) P_ (p1.toInt.toNat / 2)) t_9.toInt.toNat = -1 ∧ kt_side (fk t_9.toInt.toNat) = ((p1.toInt.toNat % 2 : Nat) : Int) ∧ kt_bar (kt_who (kt_po ((ml.toInt * mw.toInt).toNat + 1) P_ (p1.toInt.toNat / 2)) P_) fr (fk t_9.toInt.toNat) mre.toInt ((kt_po ((ml.toInt * mw.toInt).toNat + 1) P_ (p1.toInt.toNat / 2)) t_9.toInt.toNat).toInt mw.toInt ml.toInt ((p2.toInt.toNat / 8 % 4 : Nat) : Int) ((p2.toInt.toNat % 8 + 1 : Nat) : Int) = 0 := by
    have h5 := kt_mvs_at (P := P_) (k := t_9.toInt.toNat) (w := p2.toInt.toNat / 8 % 4) (n := p2.toInt.toNat % 8 + 1) (wd := mw.toInt) (L := ml.toInt) (re := mre.toInt) (t := ((p1.toInt.toNat % 2 : Nat) : Int)) (fr := fr) (fk := fk) (A := (kt_po ((ml.toInt * mw.toInt).toNat + 1) P_ (p1.toInt.toNat / 2))) hKP (by omega) (by omega)
    rw [show 32 * t_9.toInt.toNat + 8 * (p2.toInt.toNat / 8 % 4) + (p2.toInt.toNat % 8 + 1 - 1) = p2.toInt.toNat by omega] at h5
    exact h5
  have hsuy := kt_suc_at (B := ((ml.toInt * mw.toInt).toNat + 1)) (P := P_) (k := t_9.toInt.toNat) (w := p2.toInt.toNat / 8 % 4) (n := p2.toInt.toNat % 8 + 1) (t := p1.toInt.toNat % 2) (wd := mw.toInt) (L := ml.toInt) (fr := fr) (fk := fk) (A := (kt_po ((ml.toInt * mw.toInt).toNat + 1) P_ (p1.toInt.toNat / 2))) (lt := mkt) (lh := mhd) (by omega) (by omega)
  rw [show 32 * t_9.toInt.toNat + 8 * (p2.toInt.toNat / 8 % 4) + (p2.toInt.toNat % 8 + 1 - 1) = p2.toInt.toNat by omega] at hsuy
  refine lv_aload_n hx hb dX11_leads_12 rfl (lv_at hl 2 rfl) ?_
  refine va_get (D := D) (ci := 11) (C := RX11) (T := TX11) (N := 29) hx hb hts iw_X11_leads_X11 hown hK hP 0 rfl rfl 13 (by decide) (hts (.fieldLink RX11 30 "KingTableModel" "at" "[I") (kt_wp_X11_leads__X11_leads_r1 kt_wm0)) (fun _ h9 => h9) rfl dX11_leads_13 ?_
  refine lv_iload hx hb dX11_leads_16 (lv_at hl 0 rfl) ?_
  have hi_1 : vp_in t_9 40 := by exact kt_in (by omega) (by omega)
  refine va_iald hx hb hK hP 1 0 rfl rfl hi_1 dX11_leads_18 ?_
  refine lv_topi (fun a_18 ea_18 => ?_)
  have hra := hfa.get (kt_in (x := t_9) (n := P_) (by omega) (by omega))
  rw [← ea_18] at hra
  have e18 : a_18 = fa2_2 t_9.toInt.toNat := ea_18
  have i18 : a_18.toInt = (fa2_2 t_9.toInt.toNat).toInt := by rw [e18]
  have hPk : fa2_2 t_9.toInt.toNat = (kt_po ((ml.toInt * mw.toInt).toNat + 1) P_ (p1.toInt.toNat / 2)) t_9.toInt.toNat := hpos _ hKP
  refine lv_iconst (v := (-1)) hx hb dX11_leads_19 (by decide) ?_
  refine lv_icmp_eq (tgt := 57) hx hb dX11_leads_20 (by decide) (fun c_20 => ?_) (fun c_20 => ?_)
  · have d_20 := c_20
    simp only [kt_lt, kt_le, kt_eq, kt_c0, kt_c1, kt_c2, kt_c3, kt_c4, kt_c8, kt_c9, kt_cm1, kt_c81, kt_c40, kt_c7, kt_c5, kt_c6, kt_c512, kt_c10, kt_c10000] at d_20
    have hnmv : ¬ (kt_mvs P_ mw.toInt ml.toInt fr fk mre.toInt (kt_po ((ml.toInt * mw.toInt).toNat + 1) P_ (p1.toInt.toNat / 2)) ((p1.toInt.toNat % 2 : Nat) : Int)) p2.toInt.toNat := fun h => by
      obtain ⟨g1, g2, g3⟩ := hmvi.mp h
      first
        | exact g1 (hPk.symm.trans (e18.symm.trans c_20))
        | (have h5 : r_26.toInt = kt_side (fk t_9.toInt.toNat) := hw_26.1
           omega)
        | (rw [← hPk, ← kt_bar_cong hmw hml_ hxr hwho, ← i44, ← i50] at g3
           have h6 : r_51.toInt = kt_bar fo2_2 fr (fk t_9.toInt.toNat) mre.toInt (fa2_2 t_9.toInt.toNat).toInt mw.toInt ml.toInt t_44.toInt t_50.toInt := i51
           omega)
    refine lv_iconst (v := (-1)) hx hb dX11_leads_57 (by decide) ?_
    exact kt_ri (fa2_2, fo2_2, ft, mtk, msd2_2) hx hb hr hlk hS dX11_leads_58 hP hD (by show (((kt_mvs P_ mw.toInt ml.toInt fr fk mre.toInt (kt_po ((ml.toInt * mw.toInt).toNat + 1) P_ (p1.toInt.toNat / 2)) ((p1.toInt.toNat % 2 : Nat) : Int)) p2.toInt.toNat ∧ (-1 : Int32).toInt = (((kt_suc ((ml.toInt * mw.toInt).toNat + 1) P_ mw.toInt ml.toInt fr fk mkt mhd (kt_po ((ml.toInt * mw.toInt).toNat + 1) P_ (p1.toInt.toNat / 2)) (p1.toInt.toNat % 2)) p2.toInt.toNat : Nat) : Int)) ∨ (¬ (kt_mvs P_ mw.toInt ml.toInt fr fk mre.toInt (kt_po ((ml.toInt * mw.toInt).toNat + 1) P_ (p1.toInt.toNat / 2)) ((p1.toInt.toNat % 2 : Nat) : Int)) p2.toInt.toNat ∧ (-1 : Int32).toInt = -1)) ∧ (-1 ≤ (-1 : Int32).toInt ∧ (-1 : Int32).toInt < 2 * kt_pw (ml.toInt * mw.toInt + 1) P_) ∧ kt_r fa2_2 P_ (-1) (ml.toInt * mw.toInt - 1) ∧ kt_con fo2_2 fa2_2 P_ ∧ (0 ≤ msd2_2.toInt ∧ msd2_2.toInt ≤ 1); first | exact ⟨Or.inr ⟨hnmv, by decide⟩, ⟨by decide, by rw [kt_cm1]; omega⟩, hfa, hco, hsd⟩ | exact ⟨Or.inl ⟨hmvy, hsu2⟩, ⟨by omega, by omega⟩, hfa, hco, hsd⟩)
  · have d_20 := c_20
    simp only [kt_lt, kt_le, kt_eq, kt_c0, kt_c1, kt_c2, kt_c3, kt_c4, kt_c8, kt_c9, kt_cm1, kt_c81, kt_c40, kt_c7, kt_c5, kt_c6, kt_c512, kt_c10, kt_c10000] at d_20
    refine lv_aload_n hx hb dX11_leads_23 rfl (lv_at hl 2 rfl) ?_
    refine lv_iload hx hb dX11_leads_24 (lv_at hl 0 rfl) ?_
    refine kt_pi (wc := [(mx, .inr (11, [.int ml, .int mw, .ref ms, .int mgl, .int mhd, .int mre, .int mag, .int mkt, .int mho, .int mpc, .int msd2_2, .int mki, .ref mk, .ref ma, .ref mo, .ref mg, .ref mm, .ref mt, .int mdn, .int mun, .ref mn, .int mtk, .ref me, .ref mq, .int msv, .ref mwo, .ref md, .ref mf, .ref mr])), (mk, .inl (cI, 40, .inl fk))]) [0, 4] hP hD hS hA rfl (by decide) (fun hPc hDc => va_runV (As := [.int t_9]) (rest := []) ⟨hx, hb, hml, hown, hts⟩ (c_X11_sideOfE l D cI cZ cB H.size mx ms mk ma mo mg mm mt mn me mq mwo md mf mr ml mw mgl mhd mre mag mkt mho mpc msd2_2 mki mdn mun mtk msv fk t_9 (by omega)) (cwV 1 hts gX11_leads_X11_sideOf rfl rfl rfl (by decide +kernel) ⟨Nat.le_of_ble_eq_true rfl, Nat.le_of_ble_eq_true rfl⟩) (kt_preV hN hK hPc hDc 0 (ci := 11) (q := (RX11, TX11, 29)) rfl rfl) rfl rfl hl.1 rfl (lv_room (Nat.le_of_ble_eq_true rfl)) dX11_leads_26 ⟨Nat.le_of_ble_eq_true rfl, Nat.le_of_ble_eq_true rfl⟩) (fun r_26 _ H locs hw_26 hP hS => ?_)
    
    refine lv_aload_n hx hb dX11_leads_29 rfl (lv_at hl 2 rfl) ?_
    refine va_get (D := D) (ci := 11) (C := RX11) (T := TX11) (N := 29) hx hb hts iw_X11_leads_X11 hown hK hP 0 rfl rfl 10 (by decide) (hts (.fieldLink RX11 126 "KingTableModel" "side" "I") (kt_wp_X11_leads__X11_leads_r1 kt_wm1)) (fun _ h9 => h9) rfl dX11_leads_30 ?_
    refine lv_icmp_ne (tgt := 57) hx hb dX11_leads_33 (by decide) (fun c_33 => ?_) (fun c_33 => ?_)
    · have d_33 := c_33
      simp only [kt_lt, kt_le, kt_eq, kt_c0, kt_c1, kt_c2, kt_c3, kt_c4, kt_c8, kt_c9, kt_cm1, kt_c81, kt_c40, kt_c7, kt_c5, kt_c6, kt_c512, kt_c10, kt_c10000] at d_33
      have hnmv : ¬ (kt_mvs P_ mw.toInt ml.toInt fr fk mre.toInt (kt_po ((ml.toInt * mw.toInt).toNat + 1) P_ (p1.toInt.toNat / 2)) ((p1.toInt.toNat % 2 : Nat) : Int)) p2.toInt.toNat := fun h => by
        obtain ⟨g1, g2, g3⟩ := hmvi.mp h
        first
          | exact g1 (hPk.symm.trans (e18.symm.trans c_20))
          | (have h5 : r_26.toInt = kt_side (fk t_9.toInt.toNat) := hw_26.1
             omega)
          | (rw [← hPk, ← kt_bar_cong hmw hml_ hxr hwho, ← i44, ← i50] at g3
             have h6 : r_51.toInt = kt_bar fo2_2 fr (fk t_9.toInt.toNat) mre.toInt (fa2_2 t_9.toInt.toNat).toInt mw.toInt ml.toInt t_44.toInt t_50.toInt := i51
             omega)
      refine lv_iconst (v := (-1)) hx hb dX11_leads_57 (by decide) ?_
      exact kt_ri (fa2_2, fo2_2, ft, mtk, msd2_2) hx hb hr hlk hS dX11_leads_58 hP hD (by show (((kt_mvs P_ mw.toInt ml.toInt fr fk mre.toInt (kt_po ((ml.toInt * mw.toInt).toNat + 1) P_ (p1.toInt.toNat / 2)) ((p1.toInt.toNat % 2 : Nat) : Int)) p2.toInt.toNat ∧ (-1 : Int32).toInt = (((kt_suc ((ml.toInt * mw.toInt).toNat + 1) P_ mw.toInt ml.toInt fr fk mkt mhd (kt_po ((ml.toInt * mw.toInt).toNat + 1) P_ (p1.toInt.toNat / 2)) (p1.toInt.toNat % 2)) p2.toInt.toNat : Nat) : Int)) ∨ (¬ (kt_mvs P_ mw.toInt ml.toInt fr fk mre.toInt (kt_po ((ml.toInt * mw.toInt).toNat + 1) P_ (p1.toInt.toNat / 2)) ((p1.toInt.toNat % 2 : Nat) : Int)) p2.toInt.toNat ∧ (-1 : Int32).toInt = -1)) ∧ (-1 ≤ (-1 : Int32).toInt ∧ (-1 : Int32).toInt < 2 * kt_pw (ml.toInt * mw.toInt + 1) P_) ∧ kt_r fa2_2 P_ (-1) (ml.toInt * mw.toInt - 1) ∧ kt_con fo2_2 fa2_2 P_ ∧ (0 ≤ msd2_2.toInt ∧ msd2_2.toInt ≤ 1); first | exact ⟨Or.inr ⟨hnmv, by decide⟩, ⟨by decide, by rw [kt_cm1]; omega⟩, hfa, hco, hsd⟩ | exact ⟨Or.inl ⟨hmvy, hsu2⟩, ⟨by omega, by omega⟩, hfa, hco, hsd⟩)
    · have d_33 := c_33
      simp only [kt_lt, kt_le, kt_eq, kt_c0, kt_c1, kt_c2, kt_c3, kt_c4, kt_c8, kt_c9, kt_cm1, kt_c81, kt_c40, kt_c7, kt_c5, kt_c6, kt_c512, kt_c10, kt_c10000] at d_33
      have hon : 0 ≤ (fa2_2 t_9.toInt.toNat).toInt := by omega
      have hPn : ¬ (kt_po ((ml.toInt * mw.toInt).toNat + 1) P_ (p1.toInt.toNat / 2)) t_9.toInt.toNat = -1 := fun h => by
        rw [hPk, h, kt_cm1] at hon
        omega
      have hxr : 0 ≤ (fa2_2 t_9.toInt.toNat).toInt ∧ (fa2_2 t_9.toInt.toNat).toInt < ml.toInt * mw.toInt := by omega
      have hwho : ∀ f, f < 81 → fo2_2 f = kt_who (kt_po ((ml.toInt * mw.toInt).toNat + 1) P_ (p1.toInt.toNat / 2)) P_ f := fun f hf => (kt_who_of hco hcc hpc.2 hf).trans (kt_who_cong hpos)
      have hside : kt_side (fk t_9.toInt.toNat) = ((p1.toInt.toNat % 2 : Nat) : Int) := by
        have h5 : r_26.toInt = kt_side (fk t_9.toInt.toNat) := hw_26.1
        omega
      refine lv_aload_n hx hb dX11_leads_36 rfl (lv_at hl 2 rfl) ?_
      refine lv_iload hx hb dX11_leads_37 (lv_at hl 0 rfl) ?_
      refine lv_iload_n hx hb dX11_leads_39 rfl (lv_at hl 4 rfl) ?_
      refine lv_bipush (v := 8) hx hb dX11_leads_40 (by decide) ?_
      refine lv_idiv hx hb dX11_leads_42 (by decide) ?_
      refine lv_topi (fun t_42 et_42 => ?_)
      have hk_42 := kt_divk et_42 (by omega) (by decide)
      rw [show (8 : Int32).toInt = 8 by decide] at hk_42
      refine lv_iconst (v := 4) hx hb dX11_leads_43 (by decide) ?_
      refine lv_irem hx hb dX11_leads_44 (by decide) ?_
      refine lv_topi (fun t_44 et_44 => ?_)
      have hk_44 := kt_remk et_44 (by omega) (by decide)
      rw [show (4 : Int32).toInt = 4 by decide] at hk_44
      refine lv_iload_n hx hb dX11_leads_45 rfl (lv_at hl 4 rfl) ?_
      refine lv_bipush (v := 8) hx hb dX11_leads_46 (by decide) ?_
      refine lv_irem hx hb dX11_leads_48 (by decide) ?_
      refine lv_topi (fun t_48 et_48 => ?_)
      have hk_48 := kt_remk et_48 (by omega) (by decide)
      rw [show (8 : Int32).toInt = 8 by decide] at hk_48
      refine lv_iconst (v := 1) hx hb dX11_leads_49 (by decide) ?_
      refine lv_iadd hx hb dX11_leads_50 ?_
      refine lv_topi (fun t_50 et_50 => ?_)
      first | have hk_50 := kt_addx et_50 (by first | omega | (simp only [kt_c0, kt_c1, kt_c2, kt_c3, kt_c4, kt_c8, kt_c9, kt_cm1, kt_c81, kt_c40, kt_c7, kt_c5, kt_c6, kt_c512, kt_c10, kt_c10000]; omega)) (by first | omega | (simp only [kt_c0, kt_c1, kt_c2, kt_c3, kt_c4, kt_c8, kt_c9, kt_cm1, kt_c81, kt_c40, kt_c7, kt_c5, kt_c6, kt_c512, kt_c10, kt_c10000]; omega)) | obtain ⟨k_50, hk_50, hm_50, hM_50⟩ := kt_addk et_50
      try simp only [kt_c0, kt_c1, kt_c2, kt_c3, kt_c4, kt_c8, kt_c9, kt_cm1, kt_c81, kt_c40, kt_c7, kt_c5, kt_c6, kt_c512, kt_c10, kt_c10000] at hk_50
      refine kt_pi (wc := [(mx, .inr (11, [.int ml, .int mw, .ref ms, .int mgl, .int mhd, .int mre, .int mag, .int mkt, .int mho, .int mpc, .int msd2_2, .int mki, .ref mk, .ref ma, .ref mo, .ref mg, .ref mm, .ref mt, .int mdn, .int mun, .ref mn, .int mtk, .ref me, .ref mq, .int msv, .ref mwo, .ref md, .ref mf, .ref mr])), (ma, .inl (cI, 40, .inl fa2_2)), (mo, .inl (cI, 81, .inl fo2_2)), (mg, .inl (cI, 81, .inl fr)), (mk, .inl (cI, 40, .inl fk))]) [0, 1, 2, 3, 4] hP hD hS hA rfl (by decide) (fun hPc hDc => va_runV (As := [.int t_9, .int t_44, .int t_50]) (rest := []) ⟨hx, hb, hml, hown, hts⟩ (c_X11_barX l D cI cZ cB H.size mx ms mk ma mo mg mm mt mn me mq mwo md mf mr ml mw mgl mhd mre mag mkt mho mpc msd2_2 mki mdn mun mtk msv P_ fa2_2 fo2_2 fr fk t_9 t_44 t_50 hml_ hmw hpc hfa (hco.r (by omega)) (by omega) hon (by omega)) (cwV 3 hts gX11_leads_X11_bar rfl rfl rfl (by decide +kernel) ⟨Nat.le_of_ble_eq_true rfl, Nat.le_of_ble_eq_true rfl⟩) (kt_preV hN hK hPc hDc 0 (ci := 11) (q := (RX11, TX11, 29)) rfl rfl) rfl rfl hl.1 rfl (lv_room (Nat.le_of_ble_eq_true rfl)) dX11_leads_51 ⟨Nat.le_of_ble_eq_true rfl, Nat.le_of_ble_eq_true rfl⟩) (fun r_51 _ H locs hw_51 hP hS => ?_)
      have i44 : t_44.toInt = ((p2.toInt.toNat / 8 % 4 : Nat) : Int) := by omega
      have i50 : t_50.toInt = ((p2.toInt.toNat % 8 + 1 : Nat) : Int) := by omega
      have i51 := hw_51
      refine lv_if_eq (tgt := 59) hx hb dX11_leads_54 (by decide) (fun c_54 => ?_) (fun c_54 => ?_)
      · have d_54 := c_54
        simp only [kt_lt, kt_le, kt_eq, kt_c0, kt_c1, kt_c2, kt_c3, kt_c4, kt_c8, kt_c9, kt_cm1, kt_c81, kt_c40, kt_c7, kt_c5, kt_c6, kt_c512, kt_c10, kt_c10000] at d_54
        have h51 : r_51.toInt = kt_bar fo2_2 fr (fk t_9.toInt.toNat) mre.toInt (fa2_2 t_9.toInt.toNat).toInt mw.toInt ml.toInt t_44.toInt t_50.toInt := i51
        have hb0 : kt_bar fo2_2 fr (fk t_9.toInt.toNat) mre.toInt (fa2_2 t_9.toInt.toNat).toInt mw.toInt ml.toInt t_44.toInt t_50.toInt = 0 := by omega
        have hbf := kt_bar_free hb0 (by omega)
        have hmvy : (kt_mvs P_ mw.toInt ml.toInt fr fk mre.toInt (kt_po ((ml.toInt * mw.toInt).toNat + 1) P_ (p1.toInt.toNat / 2)) ((p1.toInt.toNat % 2 : Nat) : Int)) p2.toInt.toNat := hmvi.mpr ⟨hPn, hside, by rw [← hPk, ← kt_bar_cong hmw hml_ hxr hwho, ← i44, ← i50]; exact hb0⟩
        refine lv_aload_n hx hb dX11_leads_59 rfl (lv_at hl 2 rfl) ?_
        refine lv_iload hx hb dX11_leads_60 (lv_at hl 0 rfl) ?_
        refine lv_iload_n hx hb dX11_leads_62 rfl (lv_at hl 4 rfl) ?_
        refine lv_bipush (v := 8) hx hb dX11_leads_63 (by decide) ?_
        refine lv_idiv hx hb dX11_leads_65 (by decide) ?_
        refine lv_topi (fun t_65 et_65 => ?_)
        have hk_65 := kt_divk et_65 (by omega) (by decide)
        rw [show (8 : Int32).toInt = 8 by decide] at hk_65
        refine lv_iconst (v := 4) hx hb dX11_leads_66 (by decide) ?_
        refine lv_irem hx hb dX11_leads_67 (by decide) ?_
        refine lv_topi (fun t_67 et_67 => ?_)
        have hk_67 := kt_remk et_67 (by omega) (by decide)
        rw [show (4 : Int32).toInt = 4 by decide] at hk_67
        refine lv_iload_n hx hb dX11_leads_68 rfl (lv_at hl 4 rfl) ?_
        refine lv_bipush (v := 8) hx hb dX11_leads_69 (by decide) ?_
        refine lv_irem hx hb dX11_leads_71 (by decide) ?_
        refine lv_topi (fun t_71 et_71 => ?_)
        have hk_71 := kt_remk et_71 (by omega) (by decide)
        rw [show (8 : Int32).toInt = 8 by decide] at hk_71
        refine lv_iconst (v := 1) hx hb dX11_leads_72 (by decide) ?_
        refine lv_iadd hx hb dX11_leads_73 ?_
        refine lv_topi (fun t_73 et_73 => ?_)
        first | have hk_73 := kt_addx et_73 (by first | omega | (simp only [kt_c0, kt_c1, kt_c2, kt_c3, kt_c4, kt_c8, kt_c9, kt_cm1, kt_c81, kt_c40, kt_c7, kt_c5, kt_c6, kt_c512, kt_c10, kt_c10000]; omega)) (by first | omega | (simp only [kt_c0, kt_c1, kt_c2, kt_c3, kt_c4, kt_c8, kt_c9, kt_cm1, kt_c81, kt_c40, kt_c7, kt_c5, kt_c6, kt_c512, kt_c10, kt_c10000]; omega)) | obtain ⟨k_73, hk_73, hm_73, hM_73⟩ := kt_addk et_73
        try simp only [kt_c0, kt_c1, kt_c2, kt_c3, kt_c4, kt_c8, kt_c9, kt_cm1, kt_c81, kt_c40, kt_c7, kt_c5, kt_c6, kt_c512, kt_c10, kt_c10000] at hk_73
        have i67 : t_67.toInt = t_44.toInt := by omega
        have i73 : t_73.toInt = t_50.toInt := by omega
        have har := kt_al_r (a := t_44.toInt) (n := t_50.toInt) hmw hml_ hxr (by omega)
        have hTr : (kt_al (fa2_2 t_9.toInt.toNat).toInt mw.toInt ml.toInt t_44.toInt t_50.toInt).toNat < 81 := by
          rcases har with h | h <;> omega
        refine kt_bv (wc := [(mx, .inr (11, [.int ml, .int mw, .ref ms, .int mgl, .int mhd, .int mre, .int mag, .int mkt, .int mho, .int mpc, .int msd2_2, .int mki, .ref mk, .ref ma, .ref mo, .ref mg, .ref mm, .ref mt, .int mdn, .int mun, .ref mn, .int mtk, .ref me, .ref mq, .int msv, .ref mwo, .ref md, .ref mf, .ref mr])), (ma, .inl (cI, 40, .inl fa2_2)), (mo, .inl (cI, 81, .inl fo2_2)), (mg, .inl (cI, 81, .inl fr)), (mk, .inl (cI, 40, .inl fk)), (mn, .inl (cZ, 40, .inl ft))]) (wr := []) [0, 1, 2, 3, 4, 5] [] hP hD hS hA rfl rfl (by decide) (by decide) (by decide) (fun hPc hDc => va_runV (As := [.int t_9, .int t_67, .int t_73]) (rest := []) ⟨hx, hb, hml, hown, hts⟩ (c_X11_makeX l D cI cZ cB H.size mx ms mk ma mo mg mm mt mn me mq mwo md mf mr ml mw mgl mhd mre mag mkt mho mpc msd2_2 mki mdn mun mtk msv P_ fa2_2 fo2_2 fr fk ft t_9 t_67 t_73 hml_ hmw hpc hfa hco hcc (by omega) hon (by omega) (by rw [i67, i73]; exact hbf.1) (by rw [i67, i73]; exact hcc.empty hpc.2 hTr hbf.2) hsd) (cwV 3 hts gX11_leads_X11_make rfl rfl rfl (by decide +kernel) ⟨Nat.le_of_ble_eq_true rfl, Nat.le_of_ble_eq_true rfl⟩) (kt_preV hN hK hPc hDc 0 (ci := 11) (q := (RX11, TX11, 29)) rfl rfl) rfl rfl hl.1 rfl (lv_room (Nat.le_of_ble_eq_true rfl)) dX11_leads_74 ⟨Nat.le_of_ble_eq_true rfl, Nat.le_of_ble_eq_true rfl⟩) (fun u_ H locs hw_74 hP hD hS => ?_)
        obtain ⟨fa2_74, fo2_74, ft2_74, mtk2_74, msd2_74⟩ := u_
        have hP : va_P D vwCl [(mx, .inr (11, [.int ml, .int mw, .ref ms, .int mgl, .int mhd, .int mre, .int mag, .int mkt, .int mho, .int mpc, .int msd2_74, .int mki, .ref mk, .ref ma, .ref mo, .ref mg, .ref mm, .ref mt, .int mdn, .int mun, .ref mn, .int mtk2_74, .ref me, .ref mq, .int msv, .ref mwo, .ref md, .ref mf, .ref mr])), (ma, .inl (cI, 40, .inl fa2_74)), (mo, .inl (cI, 81, .inl fo2_74)), (mg, .inl (cI, 81, .inl fr)), (mk, .inl (cI, 40, .inl fk)), (mn, .inl (cZ, 40, .inl ft2_74))] H := hP.sub [0, 1, 2, 3, 4, 5] rfl
        have hD : va_D A [(mx, .inr (11, [.int ml, .int mw, .ref ms, .int mgl, .int mhd, .int mre, .int mag, .int mkt, .int mho, .int mpc, .int msd2_74, .int mki, .ref mk, .ref ma, .ref mo, .ref mg, .ref mm, .ref mt, .int mdn, .int mun, .ref mn, .int mtk2_74, .ref me, .ref mq, .int msv, .ref mwo, .ref md, .ref mf, .ref mr])), (ma, .inl (cI, 40, .inl fa2_74)), (mo, .inl (cI, 81, .inl fo2_74)), (mg, .inl (cI, 81, .inl fr)), (mk, .inl (cI, 40, .inl fk)), (mn, .inl (cZ, 40, .inl ft2_74))] := hD.sub [0, 1, 2, 3, 4, 5] (by decide) rfl
        try dsimp only at hw_74
        obtain ⟨⟨hfa, hco, hcc⟩, ⟨hsd1, hsd⟩, hmk, -⟩ := hw_74
        have hms74 := kt_subx hsd1 (by rw [kt_c1]; omega) (by rw [kt_c1]; omega)
        rw [kt_c1] at hms74
        rw [kt_cut_eq hpos, hpoc, i67, i73, i44, i50] at hmk
        have hmk2 : kt_cut P_ fa2_74 = kt_mk P_ mw.toInt ml.toInt fr fk mkt mhd (kt_po ((ml.toInt * mw.toInt).toNat + 1) P_ (p1.toInt.toNat / 2)) t_9.toInt.toNat ((p2.toInt.toNat / 8 % 4 : Nat) : Int) ((p2.toInt.toNat % 8 + 1 : Nat) : Int) := hmk
        have hpn74 : kt_pn ((ml.toInt * mw.toInt).toNat + 1) fa2_74 P_ = kt_pn ((ml.toInt * mw.toInt).toNat + 1) (kt_mk P_ mw.toInt ml.toInt fr fk mkt mhd (kt_po ((ml.toInt * mw.toInt).toNat + 1) P_ (p1.toInt.toNat / 2)) t_9.toInt.toNat ((p2.toInt.toNat / 8 % 4 : Nat) : Int) ((p2.toInt.toNat % 8 + 1 : Nat) : Int)) P_ := kt_pn_cong (fun q hq => by rw [← hmk2, kt_cut_in hq])
        refine lv_aload_n hx hb dX11_leads_77 rfl (lv_at hl 2 rfl) ?_
        refine kt_pi (wc := [(mx, .inr (11, [.int ml, .int mw, .ref ms, .int mgl, .int mhd, .int mre, .int mag, .int mkt, .int mho, .int mpc, .int msd2_74, .int mki, .ref mk, .ref ma, .ref mo, .ref mg, .ref mm, .ref mt, .int mdn, .int mun, .ref mn, .int mtk2_74, .ref me, .ref mq, .int msv, .ref mwo, .ref md, .ref mf, .ref mr])), (ma, .inl (cI, 40, .inl fa2_74))]) [0, 1] hP hD hS hA rfl (by decide) (fun hPc hDc => va_runV (As := []) (rest := []) ⟨hx, hb, hml, hown, hts⟩ (c_X11_numberX l D cI cZ cB H.size mx ms mk ma mo mg mm mt mn me mq mwo md mf mr ml mw mgl mhd mre mag mkt mho mpc msd2_74 mki mdn mun mtk2_74 msv P_ fa2_74 hml_ hmw hpc hfa hst_ hsd) (cwV 0 hts gX11_leads_X11_number rfl rfl rfl (by decide +kernel) ⟨Nat.le_of_ble_eq_true rfl, Nat.le_of_ble_eq_true rfl⟩) (kt_preV hN hK hPc hDc 0 (ci := 11) (q := (RX11, TX11, 29)) rfl rfl) rfl rfl hl.1 rfl (lv_room (Nat.le_of_ble_eq_true rfl)) dX11_leads_78 ⟨Nat.le_of_ble_eq_true rfl, Nat.le_of_ble_eq_true rfl⟩) (fun r_78 _ H locs hw_78 hP hS => ?_)
        obtain ⟨hnu, hto⟩ := hw_78
        rw [hpn74] at hnu
        have hsu2 : r_78.toInt = (((kt_suc ((ml.toInt * mw.toInt).toNat + 1) P_ mw.toInt ml.toInt fr fk mkt mhd (kt_po ((ml.toInt * mw.toInt).toNat + 1) P_ (p1.toInt.toNat / 2)) (p1.toInt.toNat % 2)) p2.toInt.toNat : Nat) : Int) := by rw [hsuy]; omega
        exact kt_ri (fa2_74, fo2_74, ft2_74, mtk2_74, msd2_74) hx hb hr hlk hS dX11_leads_81 hP hD (by show (((kt_mvs P_ mw.toInt ml.toInt fr fk mre.toInt (kt_po ((ml.toInt * mw.toInt).toNat + 1) P_ (p1.toInt.toNat / 2)) ((p1.toInt.toNat % 2 : Nat) : Int)) p2.toInt.toNat ∧ r_78.toInt = (((kt_suc ((ml.toInt * mw.toInt).toNat + 1) P_ mw.toInt ml.toInt fr fk mkt mhd (kt_po ((ml.toInt * mw.toInt).toNat + 1) P_ (p1.toInt.toNat / 2)) (p1.toInt.toNat % 2)) p2.toInt.toNat : Nat) : Int)) ∨ (¬ (kt_mvs P_ mw.toInt ml.toInt fr fk mre.toInt (kt_po ((ml.toInt * mw.toInt).toNat + 1) P_ (p1.toInt.toNat / 2)) ((p1.toInt.toNat % 2 : Nat) : Int)) p2.toInt.toNat ∧ r_78.toInt = -1)) ∧ (-1 ≤ r_78.toInt ∧ r_78.toInt < 2 * kt_pw (ml.toInt * mw.toInt + 1) P_) ∧ kt_r fa2_74 P_ (-1) (ml.toInt * mw.toInt - 1) ∧ kt_con fo2_74 fa2_74 P_ ∧ (0 ≤ msd2_74.toInt ∧ msd2_74.toInt ≤ 1); first | exact ⟨Or.inr ⟨hnmv, by decide⟩, ⟨by decide, by rw [kt_cm1]; omega⟩, hfa, hco, hsd⟩ | exact ⟨Or.inl ⟨hmvy, hsu2⟩, ⟨by omega, by omega⟩, hfa, hco, hsd⟩)
      · have d_54 := c_54
        simp only [kt_lt, kt_le, kt_eq, kt_c0, kt_c1, kt_c2, kt_c3, kt_c4, kt_c8, kt_c9, kt_cm1, kt_c81, kt_c40, kt_c7, kt_c5, kt_c6, kt_c512, kt_c10, kt_c10000] at d_54
        have hnmv : ¬ (kt_mvs P_ mw.toInt ml.toInt fr fk mre.toInt (kt_po ((ml.toInt * mw.toInt).toNat + 1) P_ (p1.toInt.toNat / 2)) ((p1.toInt.toNat % 2 : Nat) : Int)) p2.toInt.toNat := fun h => by
          obtain ⟨g1, g2, g3⟩ := hmvi.mp h
          first
            | exact g1 (hPk.symm.trans (e18.symm.trans c_20))
            | (have h5 : r_26.toInt = kt_side (fk t_9.toInt.toNat) := hw_26.1
               omega)
            | (rw [← hPk, ← kt_bar_cong hmw hml_ hxr hwho, ← i44, ← i50] at g3
               have h6 : r_51.toInt = kt_bar fo2_2 fr (fk t_9.toInt.toNat) mre.toInt (fa2_2 t_9.toInt.toNat).toInt mw.toInt ml.toInt t_44.toInt t_50.toInt := i51
               omega)
        refine lv_iconst (v := (-1)) hx hb dX11_leads_57 (by decide) ?_
        exact kt_ri (fa2_2, fo2_2, ft, mtk, msd2_2) hx hb hr hlk hS dX11_leads_58 hP hD (by show (((kt_mvs P_ mw.toInt ml.toInt fr fk mre.toInt (kt_po ((ml.toInt * mw.toInt).toNat + 1) P_ (p1.toInt.toNat / 2)) ((p1.toInt.toNat % 2 : Nat) : Int)) p2.toInt.toNat ∧ (-1 : Int32).toInt = (((kt_suc ((ml.toInt * mw.toInt).toNat + 1) P_ mw.toInt ml.toInt fr fk mkt mhd (kt_po ((ml.toInt * mw.toInt).toNat + 1) P_ (p1.toInt.toNat / 2)) (p1.toInt.toNat % 2)) p2.toInt.toNat : Nat) : Int)) ∨ (¬ (kt_mvs P_ mw.toInt ml.toInt fr fk mre.toInt (kt_po ((ml.toInt * mw.toInt).toNat + 1) P_ (p1.toInt.toNat / 2)) ((p1.toInt.toNat % 2 : Nat) : Int)) p2.toInt.toNat ∧ (-1 : Int32).toInt = -1)) ∧ (-1 ≤ (-1 : Int32).toInt ∧ (-1 : Int32).toInt < 2 * kt_pw (ml.toInt * mw.toInt + 1) P_) ∧ kt_r fa2_2 P_ (-1) (ml.toInt * mw.toInt - 1) ∧ kt_con fo2_2 fa2_2 P_ ∧ (0 ≤ msd2_2.toInt ∧ msd2_2.toInt ≤ 1); first | exact ⟨Or.inr ⟨hnmv, by decide⟩, ⟨by decide, by rw [kt_cm1]; omega⟩, hfa, hco, hsd⟩ | exact ⟨Or.inl ⟨hmvy, hsu2⟩, ⟨by omega, by omega⟩, hfa, hco, hsd⟩)
