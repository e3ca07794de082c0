theorem iw_X11_comesOut_X11 : ∀ w ∈ wsX110, w ∈ wsX11_comesOut := fun _ h => kt_wp_X11_comesOut__X110 h
set_option maxHeartbeats 4000000 in
set_option maxRecDepth 100000 in
theorem c_X11_comesOut (l : Launch) (D : va_G) (cI cZ cB : ClassId) (sz : Nat) (mx : Nat) (ms : Nat) (mk : Nat) (ma : Nat) (mo : Nat) (mg : Nat) (mm : Nat) (mt : Nat) (mn : Nat) (me : Nat) (mq : Nat) (mwo : Nat) (md : Nat) (mf : Nat) (mr : Nat) (ml : Int32) (mw : Int32) (mgl : Int32) (mhd : Int32) (mre : Int32) (mag : Int32) (mkt : Int32) (mho : Int32) (mpc : Int32) (msd : Int32) (mki : Int32) (mdn : Int32) (mun : Int32) (mtk : Int32) (msv : Int32) (P_ : Nat) (fa : Nat → Int32) (fo : Nat → Int32) (fr : Nat → Int32) (fe : Nat → Int32) (fq : Nat → Int32) (p1 : Int32) (hml_ : 2 ≤ ml.toInt ∧ ml.toInt ≤ 9) (hmw : 2 ≤ mw.toInt ∧ mw.toInt ≤ 9) (hpc : (P_ : Int) = mpc.toInt ∧ P_ ≤ 40) (hfa : kt_r fa P_ (-1) (ml.toInt * mw.toInt - 1)) (hki : 0 ≤ mki.toInt ∧ mki.toInt < (P_ : Int)) (hkf : 0 ≤ (fa mki.toNatClampNeg).toInt) : kt_Mi l yX11_comesOut wsX11_comesOut { frames := 2, cells := 0, slots := 0, locals := 41 } D (kt_ty cI cZ cB) [.ref mx, .int p1] sz [(mx, .inr (11, [.int ml, .int mw, .ref ms, .int mgl, .int mhd, .int mre, .int mag, .int mkt, .int mho, .int mpc, .int msd, .int mki, .ref mk, .ref ma, .ref mo, .ref mg, .ref mm, .ref mt, .int mdn, .int mun, .ref mn, .int mtk, .ref me, .ref mq, .int msv, .ref mwo, .ref md, .ref mf, .ref mr])), (ma, .inl (cI, 40, .inl fa)), (mo, .inl (cI, 81, .inl fo)), (mg, .inl (cI, 81, .inl fr)), (me, .inl (cZ, 81, .inl fe)), (mq, .inl (cI, 81, .inl fq))] (fun (r : Int32) (u : (Nat → Int32) × (Nat → Int32)) => 0 ≤ r.toInt ∧ r.toInt ≤ 1) (fun (u : (Nat → Int32) × (Nat → Int32)) => [(mx, .inr (11, [.int ml, .int mw, .ref ms, .int mgl, .int mhd, .int mre, .int mag, .int mkt, .int mho, .int mpc, .int msd, .int mki, .ref mk, .ref ma, .ref mo, .ref mg, .ref mm, .ref mt, .int mdn, .int mun, .ref mn, .int mtk, .ref me, .ref mq, .int msv, .ref mwo, .ref md, .ref mf, .ref mr])), (ma, .inl (cI, 40, .inl fa)), (mo, .inl (cI, 81, .inl fo)), (mg, .inl (cI, 81, .inl fr)), (me, .inl (cZ, 81, .inl u.1)), (mq, .inl (cI, 81, .inl u.2))]) 0 0 := by
  refine kt_Mi.of (cc := cX11_comesOut) (maxL := 7) (ret := some .boolean) (by decide) rfl (Nat.le_of_ble_eq_true rfl) ?_
  intro p e s m below meth c A ls H hAt hP hD hS hl
  obtain ⟨hx, hb, hr, hml, hown, hts, hN, hK, hlk, hnm, hA⟩ := hAt
  have hl : lv_has ls 7 [(0, .ref mx), (1, .int p1)] := hl
  have hown : s.vm.findClass RX11 = some m.cls := hown
  have hsb := kt_mulb hml_ hmw
  have hkr := hfa.get (kt_in (x := mki) (n := P_) (by omega) (by omega))
  refine lv_iconst (v := 0) hx hb dX11_comesOut_0 (by decide) ?_
  refine lv_istore_n (lv' := [(2, .int 0), (0, .ref mx), (1, .int p1)]) hx hb dX11_comesOut_1 rfl hl (by decide) rfl (fun ls hl => ?_)
  refine kt_loop (σ := Nat × (Nat → Int32)) 2 7 (fun u => [(mx, .inr (11, [.int ml, .int mw, .ref ms, .int mgl, .int mhd, .int mre, .int mag, .int mkt, .int mho, .int mpc, .int msd, .int mki, .ref mk, .ref ma, .ref mo, .ref mg, .ref mm, .ref mt, .int mdn, .int mun, .ref mn, .int mtk, .ref me, .ref mq, .int msv, .ref mwo, .ref md, .ref mf, .ref mr])), (ma, .inl (cI, 40, .inl fa)), (mo, .inl (cI, 81, .inl fo)), (mg, .inl (cI, 81, .inl fr)), (me, .inl (cZ, 81, .inl u.2)), (mq, .inl (cI, 81, .inl fq))]) (fun u => [(2, .int (nI u.1)), (0, .ref mx), (1, .int p1)]) (fun n u => (u.1 ≤ 81 ∧ 81 < u.1 + n) ∧ ∀ j, j < u.1 → u.2 j = 0) (fun u h => by omega) (fun n_2 ih_2 u hI H locs hP hD hS ls hl => ?_) (82) (0, fe) (by show (0 ≤ 81 ∧ 81 < 0 + 82) ∧ ∀ j, j < 0 → fe j = 0; exact ⟨by decide, fun j h => absurd h (Nat.not_lt_zero j)⟩) hP hD hS (lv_sub hl [0, 1, 2] rfl)
  obtain ⟨k, z⟩ := u
  have hP : va_P D vwCl [(mx, .inr (11, [.int ml, .int mw, .ref ms, .int mgl, .int mhd, .int mre, .int mag, .int mkt, .int mho, .int mpc, .int msd, .int mki, .ref mk, .ref ma, .ref mo, .ref mg, .ref mm, .ref mt, .int mdn, .int mun, .ref mn, .int mtk, .ref me, .ref mq, .int msv, .ref mwo, .ref md, .ref mf, .ref mr])), (ma, .inl (cI, 40, .inl fa)), (mo, .inl (cI, 81, .inl fo)), (mg, .inl (cI, 81, .inl fr)), (me, .inl (cZ, 81, .inl z)), (mq, .inl (cI, 81, .inl fq))] H := hP
  have hD : va_D A [(mx, .inr (11, [.int ml, .int mw, .ref ms, .int mgl, .int mhd, .int mre, .int mag, .int mkt, .int mho, .int mpc, .int msd, .int mki, .ref mk, .ref ma, .ref mo, .ref mg, .ref mm, .ref mt, .int mdn, .int mun, .ref mn, .int mtk, .ref me, .ref mq, .int msv, .ref mwo, .ref md, .ref mf, .ref mr])), (ma, .inl (cI, 40, .inl fa)), (mo, .inl (cI, 81, .inl fo)), (mg, .inl (cI, 81, .inl fr)), (me, .inl (cZ, 81, .inl z)), (mq, .inl (cI, 81, .inl fq))] := hD
  have hl : lv_has ls 7 [(2, .int (nI k)), (0, .ref mx), (1, .int p1)] := hl
  have hI : (k ≤ 81 ∧ 81 < k + (n_2 + 1)) ∧ ∀ j, j < k → z j = 0 := hI
  obtain ⟨hkb, hz⟩ := hI
  have hk0 := kt_nI (n := k) (by omega)
  refine lv_iload_n hx hb dX11_comesOut_2 rfl (lv_at hl 0 rfl) ?_
  refine lv_bipush (v := 81) hx hb dX11_comesOut_3 (by decide) ?_
  refine lv_icmp_ge (tgt := 21) hx hb dX11_comesOut_5 (by decide) (fun c_5 => ?_) (fun c_5 => ?_)
  · have d_5 := c_5
    simp only [kt_lt, kt_le, kt_eq, kt_c0, kt_c1, kt_c2, kt_c3, kt_c4, kt_c8, kt_c9, kt_cm1, kt_c81, kt_c40, kt_c7, kt_c5, kt_c6, kt_c512, kt_c10, kt_c10000] at d_5
    have hD : va_D A [(mx, .inr (11, [.int ml, .int mw, .ref ms, .int mgl, .int mhd, .int mre, .int mag, .int mkt, .int mho, .int mpc, .int msd, .int mki, .ref mk, .ref ma, .ref mo, .ref mg, .ref mm, .ref mt, .int mdn, .int mun, .ref mn, .int mtk, .ref me, .ref mq, .int msv, .ref mwo, .ref md, .ref mf, .ref mr])), (ma, .inl (cI, 40, .inl fa)), (mo, .inl (cI, 81, .inl fo)), (mg, .inl (cI, 81, .inl fr)), (me, .inl (cZ, 81, .inl (fun _ => 0))), (mq, .inl (cI, 81, .inl fq))] := hD.set (p := 4) rfl
    have hP : va_P D vwCl [(mx, .inr (11, [.int ml, .int mw, .ref ms, .int mgl, .int mhd, .int mre, .int mag, .int mkt, .int mho, .int mpc, .int msd, .int mki, .ref mk, .ref ma, .ref mo, .ref mg, .ref mm, .ref mt, .int mdn, .int mun, .ref mn, .int mtk, .ref me, .ref mq, .int msv, .ref mwo, .ref md, .ref mf, .ref mr])), (ma, .inl (cI, 40, .inl fa)), (mo, .inl (cI, 81, .inl fo)), (mg, .inl (cI, 81, .inl fr)), (me, .inl (cZ, 81, .inl (fun _ => 0))), (mq, .inl (cI, 81, .inl fq))] H := kt_P_arr hP 4 rfl (fun j hj => hz j (by omega))
    refine lv_iconst (v := 0) hx hb dX11_comesOut_21 (by decide) ?_
    refine lv_istore_n (lv' := [(2, .int 0), (0, .ref mx), (1, .int p1)]) hx hb dX11_comesOut_22 rfl hl (by decide) rfl (fun ls hl => ?_)
    refine lv_iconst (v := 1) hx hb dX11_comesOut_23 (by decide) ?_
    refine lv_istore_n (lv' := [(3, .int 1), (2, .int 0), (0, .ref mx), (1, .int p1)]) hx hb dX11_comesOut_24 rfl hl (by decide) rfl (fun ls hl => ?_)
    refine lv_aload_n hx hb dX11_comesOut_25 rfl (lv_at hl 2 rfl) ?_
    refine va_get (D := D) (ci := 11) (C := RX11) (T := TX11) (N := 29) hx hb hts iw_X11_comesOut_X11 hown hK hP 0 rfl rfl 23 (by decide) (hts (.fieldLink RX11 54 "KingTableModel" "queue" "[I") (List.mem_cons_of_mem _ (List.mem_append_left _ (List.mem_cons_of_mem _ (List.Mem.head _))))) (fun _ h9 => h9) rfl dX11_comesOut_26 ?_
    refine lv_iconst (v := 0) hx hb dX11_comesOut_29 (by decide) ?_
    refine lv_aload_n hx hb dX11_comesOut_30 rfl (lv_at hl 2 rfl) ?_
    refine va_get (D := D) (ci := 11) (C := RX11) (T := TX11) (N := 29) hx hb hts iw_X11_comesOut_X11 hown hK hP 0 rfl rfl 13 (by decide) (hts (.fieldLink RX11 30 "KingTableModel" "at" "[I") (List.mem_cons_of_mem _ (List.mem_append_left _ (List.mem_cons_of_mem _ (List.mem_cons_of_mem _ (List.Mem.head _)))))) (fun _ h9 => h9) rfl dX11_comesOut_31 ?_
    refine lv_aload_n hx hb dX11_comesOut_34 rfl (lv_at hl 2 rfl) ?_
    refine va_get (D := D) (ci := 11) (C := RX11) (T := TX11) (N := 29) hx hb hts iw_X11_comesOut_X11 hown hK hP 0 rfl rfl 11 (by decide) (hts (.fieldLink RX11 135 "KingTableModel" "king" "I") (List.mem_cons_of_mem _ (List.mem_append_left _ (List.mem_cons_of_mem _ (List.mem_cons_of_mem _ (List.mem_cons_of_mem _ (List.Mem.head _))))))) (fun _ h9 => h9) rfl dX11_comesOut_35 ?_
    have hi_1 : vp_in mki 40 := by exact kt_in (by omega) (by omega)
    refine va_iald hx hb hK hP 1 0 rfl rfl hi_1 dX11_comesOut_38 ?_
    refine lv_topi (fun a_38 ea_38 => ?_)
    have hk38 : a_38.toInt = (fa mki.toNatClampNeg).toInt := by rw [ea_38]
    have hi_2 : vp_in 0 81 := by unfold vp_in; decide
    refine va_iast hx hb hK hP hD hS 5 0 rfl rfl hi_2 dX11_comesOut_39 (fun H locs hP hD hS => ?_)
    have hP : va_P D vwCl [(mx, .inr (11, [.int ml, .int mw, .ref ms, .int mgl, .int mhd, .int mre, .int mag, .int mkt, .int mho, .int mpc, .int msd, .int mki, .ref mk, .ref ma, .ref mo, .ref mg, .ref mm, .ref mt, .int mdn, .int mun, .ref mn, .int mtk, .ref me, .ref mq, .int msv, .ref mwo, .ref md, .ref mf, .ref mr])), (ma, .inl (cI, 40, .inl fa)), (mo, .inl (cI, 81, .inl fo)), (mg, .inl (cI, 81, .inl fr)), (me, .inl (cZ, 81, .inl (fun _ => 0))), (mq, .inl (cI, 81, .inl (upd fq (0 : Int32).toNatClampNeg a_38)))] H := hP
    have hD : va_D A [(mx, .inr (11, [.int ml, .int mw, .ref ms, .int mgl, .int mhd, .int mre, .int mag, .int mkt, .int mho, .int mpc, .int msd, .int mki, .ref mk, .ref ma, .ref mo, .ref mg, .ref mm, .ref mt, .int mdn, .int mun, .ref mn, .int mtk, .ref me, .ref mq, .int msv, .ref mwo, .ref md, .ref mf, .ref mr])), (ma, .inl (cI, 40, .inl fa)), (mo, .inl (cI, 81, .inl fo)), (mg, .inl (cI, 81, .inl fr)), (me, .inl (cZ, 81, .inl (fun _ => 0))), (mq, .inl (cI, 81, .inl (upd fq (0 : Int32).toNatClampNeg a_38)))] := hD
    refine lv_aload_n hx hb dX11_comesOut_40 rfl (lv_at hl 2 rfl) ?_
    refine va_get (D := D) (ci := 11) (C := RX11) (T := TX11) (N := 29) hx hb hts iw_X11_comesOut_X11 hown hK hP 0 rfl rfl 22 (by decide) (hts (.fieldLink RX11 51 "KingTableModel" "met" "[Z") (List.mem_cons_of_mem _ (List.mem_append_left _ (List.Mem.head _)))) (fun _ h9 => h9) rfl dX11_comesOut_41 ?_
    refine lv_aload_n hx hb dX11_comesOut_44 rfl (lv_at hl 2 rfl) ?_
    refine va_get (D := D) (ci := 11) (C := RX11) (T := TX11) (N := 29) hx hb hts iw_X11_comesOut_X11 hown hK hP 0 rfl rfl 13 (by decide) (hts (.fieldLink RX11 30 "KingTableModel" "at" "[I") (List.mem_cons_of_mem _ (List.mem_append_left _ (List.mem_cons_of_mem _ (List.mem_cons_of_mem _ (List.Mem.head _)))))) (fun _ h9 => h9) rfl dX11_comesOut_45 ?_
    refine lv_aload_n hx hb dX11_comesOut_48 rfl (lv_at hl 2 rfl) ?_
    refine va_get (D := D) (ci := 11) (C := RX11) (T := TX11) (N := 29) hx hb hts iw_X11_comesOut_X11 hown hK hP 0 rfl rfl 11 (by decide) (hts (.fieldLink RX11 135 "KingTableModel" "king" "I") (List.mem_cons_of_mem _ (List.mem_append_left _ (List.mem_cons_of_mem _ (List.mem_cons_of_mem _ (List.mem_cons_of_mem _ (List.Mem.head _))))))) (fun _ h9 => h9) rfl dX11_comesOut_49 ?_
    have hi_3 : vp_in mki 40 := by exact kt_in (by omega) (by omega)
    refine va_iald hx hb hK hP 1 0 rfl rfl hi_3 dX11_comesOut_52 ?_
    refine lv_topi (fun a_52 ea_52 => ?_)
    have hk52 : a_52.toInt = (fa mki.toNatClampNeg).toInt := by rw [ea_52]
    refine lv_iconst (v := 1) hx hb dX11_comesOut_53 (by decide) ?_
    have hsn : kt_sn (upd (fun _ => 0) a_52.toNatClampNeg (vp_nar .boolean 1)) 81 = 1 := by
      show kt_sn (upd (fun _ => 0) a_52.toNatClampNeg 1) 81 = 1
      rw [(kt_sn_upd _ rfl (by show a_52.toInt.toNat < 81; omega)).1, kt_sn_0]
    have hi_4 : vp_in a_52 81 := by exact kt_in (by omega) (by omega)
    refine va_zast hx hb hK hP hD hS 4 1 rfl rfl hi_4 dX11_comesOut_54 (fun H locs hP hD hS => ?_)
    have hP : va_P D vwCl [(mx, .inr (11, [.int ml, .int mw, .ref ms, .int mgl, .int mhd, .int mre, .int mag, .int mkt, .int mho, .int mpc, .int msd, .int mki, .ref mk, .ref ma, .ref mo, .ref mg, .ref mm, .ref mt, .int mdn, .int mun, .ref mn, .int mtk, .ref me, .ref mq, .int msv, .ref mwo, .ref md, .ref mf, .ref mr])), (ma, .inl (cI, 40, .inl fa)), (mo, .inl (cI, 81, .inl fo)), (mg, .inl (cI, 81, .inl fr)), (me, .inl (cZ, 81, .inl (upd (fun _ => 0) a_52.toNatClampNeg (vp_nar .boolean 1)))), (mq, .inl (cI, 81, .inl (upd fq (0 : Int32).toNatClampNeg a_38)))] H := hP
    have hD : va_D A [(mx, .inr (11, [.int ml, .int mw, .ref ms, .int mgl, .int mhd, .int mre, .int mag, .int mkt, .int mho, .int mpc, .int msd, .int mki, .ref mk, .ref ma, .ref mo, .ref mg, .ref mm, .ref mt, .int mdn, .int mun, .ref mn, .int mtk, .ref me, .ref mq, .int msv, .ref mwo, .ref md, .ref mf, .ref mr])), (ma, .inl (cI, 40, .inl fa)), (mo, .inl (cI, 81, .inl fo)), (mg, .inl (cI, 81, .inl fr)), (me, .inl (cZ, 81, .inl (upd (fun _ => 0) a_52.toNatClampNeg (vp_nar .boolean 1)))), (mq, .inl (cI, 81, .inl (upd fq (0 : Int32).toNatClampNeg a_38)))] := hD
    refine kt_loop (σ := Int32 × Int32 × (Nat → Int32) × (Nat → Int32)) 55 7 (fun u => [(mx, .inr (11, [.int ml, .int mw, .ref ms, .int mgl, .int mhd, .int mre, .int mag, .int mkt, .int mho, .int mpc, .int msd, .int mki, .ref mk, .ref ma, .ref mo, .ref mg, .ref mm, .ref mt, .int mdn, .int mun, .ref mn, .int mtk, .ref me, .ref mq, .int msv, .ref mwo, .ref md, .ref mf, .ref mr])), (ma, .inl (cI, 40, .inl fa)), (mo, .inl (cI, 81, .inl fo)), (mg, .inl (cI, 81, .inl fr)), (me, .inl (cZ, 81, .inl u.2.2.1)), (mq, .inl (cI, 81, .inl u.2.2.2))]) (fun u => [(3, .int u.2.1), (2, .int u.1), (0, .ref mx), (1, .int p1)]) (fun n u => (0 ≤ u.1.toInt ∧ u.1.toInt ≤ 81 ∧ 81 < u.1.toInt + n) ∧ (0 ≤ u.2.1.toInt ∧ u.2.1.toInt = (kt_sn u.2.2.1 81 : Int)) ∧ ∀ j : Nat, (j : Int) < u.2.1.toInt → 0 ≤ (u.2.2.2 j).toInt ∧ (u.2.2.2 j).toInt < ml.toInt * mw.toInt) (fun u h => by omega) (fun n_55 ih_55 u hI H locs hP hD hS ls hl => ?_) (82) ((0 : Int32), (1 : Int32), (upd (fun _ => 0) a_52.toNatClampNeg (vp_nar .boolean 1)), (upd fq (0 : Int32).toNatClampNeg a_38)) (by show (0 ≤ (0 : Int32).toInt ∧ (0 : Int32).toInt ≤ 81 ∧ 81 < (0 : Int32).toInt + 82) ∧ (0 ≤ (1 : Int32).toInt ∧ (1 : Int32).toInt = (kt_sn (upd (fun _ => 0) a_52.toNatClampNeg (vp_nar .boolean 1)) 81 : Int)) ∧ ∀ j : Nat, (j : Int) < (1 : Int32).toInt → 0 ≤ ((upd fq (0 : Int32).toNatClampNeg a_38) j).toInt ∧ ((upd fq (0 : Int32).toNatClampNeg a_38) j).toInt < ml.toInt * mw.toInt; exact ⟨by decide, ⟨by decide, by rw [hsn]; decide⟩, fun j hj => by rw [kt_c1] at hj; rw [show j = 0 by omega]; show 0 ≤ (upd fq 0 a_38 0).toInt ∧ (upd fq 0 a_38 0).toInt < ml.toInt * mw.toInt; rw [pk_us]; omega⟩) hP hD hS (lv_sub hl [0, 1, 2, 3] rfl)
    obtain ⟨hd, tl, g1, g2⟩ := u
    have hP : va_P D vwCl [(mx, .inr (11, [.int ml, .int mw, .ref ms, .int mgl, .int mhd, .int mre, .int mag, .int mkt, .int mho, .int mpc, .int msd, .int mki, .ref mk, .ref ma, .ref mo, .ref mg, .ref mm, .ref mt, .int mdn, .int mun, .ref mn, .int mtk, .ref me, .ref mq, .int msv, .ref mwo, .ref md, .ref mf, .ref mr])), (ma, .inl (cI, 40, .inl fa)), (mo, .inl (cI, 81, .inl fo)), (mg, .inl (cI, 81, .inl fr)), (me, .inl (cZ, 81, .inl g1)), (mq, .inl (cI, 81, .inl g2))] H := hP
    have hD : va_D A [(mx, .inr (11, [.int ml, .int mw, .ref ms, .int mgl, .int mhd, .int mre, .int mag, .int mkt, .int mho, .int mpc, .int msd, .int mki, .ref mk, .ref ma, .ref mo, .ref mg, .ref mm, .ref mt, .int mdn, .int mun, .ref mn, .int mtk, .ref me, .ref mq, .int msv, .ref mwo, .ref md, .ref mf, .ref mr])), (ma, .inl (cI, 40, .inl fa)), (mo, .inl (cI, 81, .inl fo)), (mg, .inl (cI, 81, .inl fr)), (me, .inl (cZ, 81, .inl g1)), (mq, .inl (cI, 81, .inl g2))] := hD
    have hl : lv_has ls 7 [(3, .int tl), (2, .int hd), (0, .ref mx), (1, .int p1)] := hl
    have hI : (0 ≤ hd.toInt ∧ hd.toInt ≤ 81 ∧ 81 < hd.toInt + (n_55 + 1)) ∧ (0 ≤ tl.toInt ∧ tl.toInt = (kt_sn g1 81 : Int)) ∧ ∀ j : Nat, (j : Int) < tl.toInt → 0 ≤ (g2 j).toInt ∧ (g2 j).toInt < ml.toInt * mw.toInt := hI
    obtain ⟨hhb, htl, hql⟩ := hI
    have hsl := kt_sn_le g1 81
    refine lv_iload_n hx hb dX11_comesOut_55 rfl (lv_at hl 1 rfl) ?_
    refine lv_iload_n hx hb dX11_comesOut_56 rfl (lv_at hl 0 rfl) ?_
    refine lv_icmp_ge (tgt := 171) hx hb dX11_comesOut_57 (by decide) (fun c_57 => ?_) (fun c_57 => ?_)
    · have d_57 := c_57
      simp only [kt_lt, kt_le, kt_eq, kt_c0, kt_c1, kt_c2, kt_c3, kt_c4, kt_c8, kt_c9, kt_cm1, kt_c81, kt_c40, kt_c7, kt_c5, kt_c6, kt_c512, kt_c10, kt_c10000] at d_57
      refine lv_iconst (v := 0) hx hb dX11_comesOut_171 (by decide) ?_
      exact kt_rz (g1, g2) hx hb hr hlk hS dX11_comesOut_172 hP hD (by show 0 ≤ (0 : Int32).toInt ∧ (0 : Int32).toInt ≤ 1; decide) rfl
    · have d_57 := c_57
      simp only [kt_lt, kt_le, kt_eq, kt_c0, kt_c1, kt_c2, kt_c3, kt_c4, kt_c8, kt_c9, kt_cm1, kt_c81, kt_c40, kt_c7, kt_c5, kt_c6, kt_c512, kt_c10, kt_c10000] at d_57
      refine lv_aload_n hx hb dX11_comesOut_60 rfl (lv_at hl 2 rfl) ?_
      refine va_get (D := D) (ci := 11) (C := RX11) (T := TX11) (N := 29) hx hb hts iw_X11_comesOut_X11 hown hK hP 0 rfl rfl 23 (by decide) (hts (.fieldLink RX11 54 "KingTableModel" "queue" "[I") (List.mem_cons_of_mem _ (List.mem_append_left _ (List.mem_cons_of_mem _ (List.Mem.head _))))) (fun _ h9 => h9) rfl dX11_comesOut_61 ?_
      refine lv_iload_n hx hb dX11_comesOut_64 rfl (lv_at hl 1 rfl) ?_
      have hi_5 : vp_in hd 81 := by exact kt_in (by omega) (by omega)
      refine va_iald hx hb hK hP 5 0 rfl rfl hi_5 dX11_comesOut_65 ?_
      refine lv_topi (fun a_65 ea_65 => ?_)
      have hqf := hql hd.toInt.toNat (by omega)
      have hq65 : a_65 = g2 hd.toInt.toNat := ea_65
      rw [← hq65] at hqf
      refine lv_istore (lv' := [(4, .int a_65), (3, .int tl), (2, .int hd), (0, .ref mx), (1, .int p1)]) hx hb dX11_comesOut_66 hl (by decide) rfl (fun ls hl => ?_)
      obtain ⟨t_68, et_68⟩ : ∃ y : Int32, y = hd + 1 := ⟨_, rfl⟩
      obtain ⟨k_68, hk_68, hm_68, hM_68⟩ := kt_addk et_68
      try simp only [kt_c0, kt_c1, kt_c2, kt_c3, kt_c4, kt_c8, kt_c9, kt_cm1, kt_c81, kt_c40, kt_c7, kt_c5, kt_c6, kt_c512, kt_c10, kt_c10000] at hk_68
      refine lv_iinc (v := t_68) (lv' := [(2, .int t_68), (4, .int a_65), (3, .int tl), (0, .ref mx), (1, .int p1)]) hx hb dX11_comesOut_68 hl (k := 2) rfl (by rw [et_68]; rfl) (by decide) rfl (fun ls hl => ?_)
      refine lv_aload_n hx hb dX11_comesOut_71 rfl (lv_at hl 3 rfl) ?_
      refine lv_iload hx hb dX11_comesOut_72 (lv_at hl 1 rfl) ?_
      refine kt_pi (wc := [(mx, .inr (11, [.int ml, .int mw, .ref ms, .int mgl, .int mhd, .int mre, .int mag, .int mkt, .int mho, .int mpc, .int msd, .int mki, .ref mk, .ref ma, .ref mo, .ref mg, .ref mm, .ref mt, .int mdn, .int mun, .ref mn, .int mtk, .ref me, .ref mq, .int msv, .ref mwo, .ref md, .ref mf, .ref mr])), (mg, .inl (cI, 81, .inl fr))]) [0, 3] hP hD hS hA rfl (by decide) (fun hPc hDc => va_runV (As := [.int a_65]) (rest := []) ⟨hx, hb, hml, hown, hts⟩ (c_X11_isGoal l D cI cZ cB H.size mx ms mk ma mo mg mm mt mn me mq mwo md mf mr ml mw mgl mhd mre mag mkt mho mpc msd mki mdn mun mtk msv fr a_65 (by first | assumption | omega | rfl | decide) (by first | assumption | omega | rfl | decide) (by first | assumption | omega | rfl | decide)) (cwV 1 hts gX11_comesOut_X11_isGoal rfl rfl rfl (by decide +kernel) ⟨Nat.le_of_ble_eq_true rfl, Nat.le_of_ble_eq_true rfl⟩) (kt_preV hN hK hPc hDc 0 (ci := 11) (q := (RX11, TX11, 29)) rfl rfl) rfl rfl hl.1 rfl (lv_room (Nat.le_of_ble_eq_true rfl)) dX11_comesOut_74 ⟨Nat.le_of_ble_eq_true rfl, Nat.le_of_ble_eq_true rfl⟩) (fun r_74 _ H locs hw_74 hP hS => ?_)
      refine lv_if_eq (tgt := 82) hx hb dX11_comesOut_77 (by decide) (fun c_77 => ?_) (fun c_77 => ?_)
      · have d_77 := c_77
        simp only [kt_lt, kt_le, kt_eq, kt_c0, kt_c1, kt_c2, kt_c3, kt_c4, kt_c8, kt_c9, kt_cm1, kt_c81, kt_c40, kt_c7, kt_c5, kt_c6, kt_c512, kt_c10, kt_c10000] at d_77
        refine lv_iconst (v := 0) hx hb dX11_comesOut_82 (by decide) ?_
        refine lv_istore (lv' := [(5, .int 0), (2, .int t_68), (4, .int a_65), (3, .int tl), (0, .ref mx), (1, .int p1)]) hx hb dX11_comesOut_83 hl (by decide) rfl (fun ls hl => ?_)
        refine kt_loop (σ := Nat × Int32 × (Nat → Int32) × (Nat → Int32)) 85 7 (fun u => [(mx, .inr (11, [.int ml, .int mw, .ref ms, .int mgl, .int mhd, .int mre, .int mag, .int mkt, .int mho, .int mpc, .int msd, .int mki, .ref mk, .ref ma, .ref mo, .ref mg, .ref mm, .ref mt, .int mdn, .int mun, .ref mn, .int mtk, .ref me, .ref mq, .int msv, .ref mwo, .ref md, .ref mf, .ref mr])), (ma, .inl (cI, 40, .inl fa)), (mo, .inl (cI, 81, .inl fo)), (mg, .inl (cI, 81, .inl fr)), (me, .inl (cZ, 81, .inl u.2.2.1)), (mq, .inl (cI, 81, .inl u.2.2.2))]) (fun u => [(5, .int (nI u.1)), (2, .int t_68), (4, .int a_65), (3, .int u.2.1), (0, .ref mx), (1, .int p1)]) (fun n u => (u.1 ≤ 4 ∧ 4 < u.1 + n) ∧ (0 ≤ u.2.1.toInt ∧ u.2.1.toInt = (kt_sn u.2.2.1 81 : Int)) ∧ ∀ j : Nat, (j : Int) < u.2.1.toInt → 0 ≤ (u.2.2.2 j).toInt ∧ (u.2.2.2 j).toInt < ml.toInt * mw.toInt) (fun u h => by omega) (fun n_85 ih_85 u hI H locs hP hD hS ls hl => ?_) (5) (0, tl, g1, g2) (by show (0 ≤ 4 ∧ 4 < 0 + 5) ∧ (0 ≤ tl.toInt ∧ tl.toInt = (kt_sn g1 81 : Int)) ∧ ∀ j : Nat, (j : Int) < tl.toInt → 0 ≤ (g2 j).toInt ∧ (g2 j).toInt < ml.toInt * mw.toInt; exact ⟨by decide, htl, hql⟩) hP hD hS (lv_sub hl [0, 1, 2, 3, 4, 5] rfl)
        obtain ⟨w, tm, i1, i2⟩ := u
        have hP : va_P D vwCl [(mx, .inr (11, [.int ml, .int mw, .ref ms, .int mgl, .int mhd, .int mre, .int mag, .int mkt, .int mho, .int mpc, .int msd, .int mki, .ref mk, .ref ma, .ref mo, .ref mg, .ref mm, .ref mt, .int mdn, .int mun, .ref mn, .int mtk, .ref me, .ref mq, .int msv, .ref mwo, .ref md, .ref mf, .ref mr])), (ma, .inl (cI, 40, .inl fa)), (mo, .inl (cI, 81, .inl fo)), (mg, .inl (cI, 81, .inl fr)), (me, .inl (cZ, 81, .inl i1)), (mq, .inl (cI, 81, .inl i2))] H := hP
        have hD : va_D A [(mx, .inr (11, [.int ml, .int mw, .ref ms, .int mgl, .int mhd, .int mre, .int mag, .int mkt, .int mho, .int mpc, .int msd, .int mki, .ref mk, .ref ma, .ref mo, .ref mg, .ref mm, .ref mt, .int mdn, .int mun, .ref mn, .int mtk, .ref me, .ref mq, .int msv, .ref mwo, .ref md, .ref mf, .ref mr])), (ma, .inl (cI, 40, .inl fa)), (mo, .inl (cI, 81, .inl fo)), (mg, .inl (cI, 81, .inl fr)), (me, .inl (cZ, 81, .inl i1)), (mq, .inl (cI, 81, .inl i2))] := hD
        have hl : lv_has ls 7 [(5, .int (nI w)), (2, .int t_68), (4, .int a_65), (3, .int tm), (0, .ref mx), (1, .int p1)] := hl
        have hI : (w ≤ 4 ∧ 4 < w + (n_85 + 1)) ∧ (0 ≤ tm.toInt ∧ tm.toInt = (kt_sn i1 81 : Int)) ∧ ∀ j : Nat, (j : Int) < tm.toInt → 0 ≤ (i2 j).toInt ∧ (i2 j).toInt < ml.toInt * mw.toInt := hI
        obtain ⟨hwb, htl, hql⟩ := hI
        have hw0 := kt_nI (n := w) (by omega)
        have hsl1 := kt_sn_le i1 81
        refine lv_iload hx hb dX11_comesOut_85 (lv_at hl 0 rfl) ?_
        refine lv_iconst (v := 4) hx hb dX11_comesOut_87 (by decide) ?_
        refine lv_icmp_ge (tgt := 168) hx hb dX11_comesOut_88 (by decide) (fun c_88 => ?_) (fun c_88 => ?_)
        · have d_88 := c_88
          simp only [kt_lt, kt_le, kt_eq, kt_c0, kt_c1, kt_c2, kt_c3, kt_c4, kt_c8, kt_c9, kt_cm1, kt_c81, kt_c40, kt_c7, kt_c5, kt_c6, kt_c512, kt_c10, kt_c10000] at d_88
          refine lv_goto (tgt := 55) hx hb dX11_comesOut_168 (by decide) ?_
          exact ih_55 (t_68, tm, i1, i2) (by show (0 ≤ t_68.toInt ∧ t_68.toInt ≤ 81 ∧ 81 < t_68.toInt + n_55) ∧ (0 ≤ tm.toInt ∧ tm.toInt = (kt_sn i1 81 : Int)) ∧ ∀ j : Nat, (j : Int) < tm.toInt → 0 ≤ (i2 j).toInt ∧ (i2 j).toInt < ml.toInt * mw.toInt; exact ⟨by omega, htl, hql⟩) H _ hP hD hS ls (lv_sub hl [3, 1, 4, 5] rfl)
        · have d_88 := c_88
          simp only [kt_lt, kt_le, kt_eq, kt_c0, kt_c1, kt_c2, kt_c3, kt_c4, kt_c8, kt_c9, kt_cm1, kt_c81, kt_c40, kt_c7, kt_c5, kt_c6, kt_c512, kt_c10, kt_c10000] at d_88
          refine lv_aload_n hx hb dX11_comesOut_91 rfl (lv_at hl 4 rfl) ?_
          refine lv_iload hx hb dX11_comesOut_92 (lv_at hl 2 rfl) ?_
          refine lv_iload hx hb dX11_comesOut_94 (lv_at hl 0 rfl) ?_
          refine lv_iconst (v := 1) hx hb dX11_comesOut_96 (by decide) ?_
          refine kt_pi (wc := [(mx, .inr (11, [.int ml, .int mw, .ref ms, .int mgl, .int mhd, .int mre, .int mag, .int mkt, .int mho, .int mpc, .int msd, .int mki, .ref mk, .ref ma, .ref mo, .ref mg, .ref mm, .ref mt, .int mdn, .int mun, .ref mn, .int mtk, .ref me, .ref mq, .int msv, .ref mwo, .ref md, .ref mf, .ref mr]))]) [0] hP hD hS hA rfl (by decide) (fun hPc hDc => va_runV (As := [.int a_65, .int (nI w), .int 1]) (rest := []) ⟨hx, hb, hml, hown, hts⟩ (c_X11_along l D cI cZ cB H.size mx ms mk ma mo mg mm mt mn me mq mwo md mf mr ml mw mgl mhd mre mag mkt mho mpc msd mki mdn mun mtk msv a_65 (nI w) 1 hml_ hmw (by omega) (by decide)) (cwV 3 hts gX11_comesOut_X11_along rfl rfl rfl (by decide +kernel) ⟨Nat.le_of_ble_eq_true rfl, Nat.le_of_ble_eq_true rfl⟩) (kt_preV hN hK hPc hDc 0 (ci := 11) (q := (RX11, TX11, 29)) rfl rfl) rfl rfl hl.1 rfl (lv_room (Nat.le_of_ble_eq_true rfl)) dX11_comesOut_97 ⟨Nat.le_of_ble_eq_true rfl, Nat.le_of_ble_eq_true rfl⟩) (fun r_97 _ H locs hw_97 hP hS => ?_)
          have hal : -1 ≤ r_97.toInt ∧ r_97.toInt ≤ 80 := by
            rcases Int.lt_or_le (kt_rom a_65.toInt mw.toInt ml.toInt (nI w).toInt) (1 : Int32).toInt with h | h
            · have := hw_97.2 (by omega); omega
            · have := hw_97.1 h; omega
          have hals : 0 ≤ r_97.toInt → r_97.toInt < ml.toInt * mw.toInt := by
            intro h0
            rcases Int.lt_or_le (kt_rom a_65.toInt mw.toInt ml.toInt (nI w).toInt) (1 : Int32).toInt with h | h
            · have := hw_97.2 (by omega); omega
            · have := hw_97.1 h; omega
          refine lv_istore (lv' := [(6, .int r_97), (5, .int (nI w)), (2, .int t_68), (4, .int a_65), (3, .int tm), (0, .ref mx), (1, .int p1)]) hx hb dX11_comesOut_100 hl (by decide) rfl (fun ls hl => ?_)
          have hal : -1 ≤ r_97.toInt ∧ r_97.toInt ≤ 80 := by
            rcases Int.lt_or_le (kt_rom a_65.toInt mw.toInt ml.toInt (nI w).toInt) (1 : Int32).toInt with h | h
            · have := hw_97.2 (by omega); omega
            · have := hw_97.1 h; omega
          refine lv_iload hx hb dX11_comesOut_102 (lv_at hl 0 rfl) ?_
          refine lv_iconst (v := (-1)) hx hb dX11_comesOut_104 (by decide) ?_
          refine lv_icmp_eq (tgt := 162) hx hb dX11_comesOut_105 (by decide) (fun c_105 => ?_) (fun c_105 => ?_)
          · have d_105 := c_105
            simp only [kt_lt, kt_le, kt_eq, kt_c0, kt_c1, kt_c2, kt_c3, kt_c4, kt_c8, kt_c9, kt_cm1, kt_c81, kt_c40, kt_c7, kt_c5, kt_c6, kt_c512, kt_c10, kt_c10000] at d_105
            refine lv_iinc (v := nI (w + 1)) (lv' := [(5, .int (nI (w + 1))), (6, .int r_97), (2, .int t_68), (4, .int a_65), (3, .int tm), (0, .ref mx), (1, .int p1)]) hx hb dX11_comesOut_162 hl (k := 1) rfl (nI_1 _) (by decide) rfl (fun ls hl => ?_)
            refine lv_goto (tgt := 85) hx hb dX11_comesOut_165 (by decide) ?_
            exact ih_85 ((w + 1), tm, i1, i2) (by show ((w + 1) ≤ 4 ∧ 4 < (w + 1) + n_85) ∧ (0 ≤ tm.toInt ∧ tm.toInt = (kt_sn i1 81 : Int)) ∧ ∀ j : Nat, (j : Int) < tm.toInt → 0 ≤ (i2 j).toInt ∧ (i2 j).toInt < ml.toInt * mw.toInt; first
                          | exact ⟨by omega, htl, hql⟩
                          | exact ⟨by omega, by rw [show kt_sn (upd i1 r_97.toNatClampNeg (vp_nar .boolean 1)) 81 = kt_sn i1 81 + 1 from hsu.1]; omega, fun j hj => if e : j = tm.toNatClampNeg then (by rw [e, pk_us]; omega) else (by rw [pk_un e]; exact hql j (by have : ¬ j = tm.toInt.toNat := e; omega))⟩) H _ hP hD hS ls (lv_sub hl [0, 2, 3, 4, 5, 6] rfl)
          · have d_105 := c_105
            simp only [kt_lt, kt_le, kt_eq, kt_c0, kt_c1, kt_c2, kt_c3, kt_c4, kt_c8, kt_c9, kt_cm1, kt_c81, kt_c40, kt_c7, kt_c5, kt_c6, kt_c512, kt_c10, kt_c10000] at d_105
            refine lv_aload_n hx hb dX11_comesOut_108 rfl (lv_at hl 5 rfl) ?_
            refine va_get (D := D) (ci := 11) (C := RX11) (T := TX11) (N := 29) hx hb hts iw_X11_comesOut_X11 hown hK hP 0 rfl rfl 22 (by decide) (hts (.fieldLink RX11 51 "KingTableModel" "met" "[Z") (List.mem_cons_of_mem _ (List.mem_append_left _ (List.Mem.head _)))) (fun _ h9 => h9) rfl dX11_comesOut_109 ?_
            refine lv_iload hx hb dX11_comesOut_112 (lv_at hl 0 rfl) ?_
            have hi_6 : vp_in r_97 81 := by exact kt_in (by omega) (by omega)
            refine va_zald hx hb hK hP 4 1 rfl rfl hi_6 dX11_comesOut_114 ?_
            refine lv_topi (fun a_114 ea_114 => ?_)
            refine lv_if_ne (tgt := 162) hx hb dX11_comesOut_115 (by decide) (fun c_115 => ?_) (fun c_115 => ?_)
            · have d_115 := c_115
              simp only [kt_lt, kt_le, kt_eq, kt_c0, kt_c1, kt_c2, kt_c3, kt_c4, kt_c8, kt_c9, kt_cm1, kt_c81, kt_c40, kt_c7, kt_c5, kt_c6, kt_c512, kt_c10, kt_c10000] at d_115
              refine lv_iinc (v := nI (w + 1)) (lv' := [(5, .int (nI (w + 1))), (6, .int r_97), (2, .int t_68), (4, .int a_65), (3, .int tm), (0, .ref mx), (1, .int p1)]) hx hb dX11_comesOut_162 hl (k := 1) rfl (nI_1 _) (by decide) rfl (fun ls hl => ?_)
              refine lv_goto (tgt := 85) hx hb dX11_comesOut_165 (by decide) ?_
              exact ih_85 ((w + 1), tm, i1, i2) (by show ((w + 1) ≤ 4 ∧ 4 < (w + 1) + n_85) ∧ (0 ≤ tm.toInt ∧ tm.toInt = (kt_sn i1 81 : Int)) ∧ ∀ j : Nat, (j : Int) < tm.toInt → 0 ≤ (i2 j).toInt ∧ (i2 j).toInt < ml.toInt * mw.toInt; first
                            | exact ⟨by omega, htl, hql⟩
                            | exact ⟨by omega, by rw [show kt_sn (upd i1 r_97.toNatClampNeg (vp_nar .boolean 1)) 81 = kt_sn i1 81 + 1 from hsu.1]; omega, fun j hj => if e : j = tm.toNatClampNeg then (by rw [e, pk_us]; omega) else (by rw [pk_un e]; exact hql j (by have : ¬ j = tm.toInt.toNat := e; omega))⟩) H _ hP hD hS ls (lv_sub hl [0, 2, 3, 4, 5, 6] rfl)
            · have d_115 := c_115
              simp only [kt_lt, kt_le, kt_eq, kt_c0, kt_c1, kt_c2, kt_c3, kt_c4, kt_c8, kt_c9, kt_cm1, kt_c81, kt_c40, kt_c7, kt_c5, kt_c6, kt_c512, kt_c10, kt_c10000] at d_115
              refine lv_aload_n hx hb dX11_comesOut_118 rfl (lv_at hl 5 rfl) ?_
              refine va_get (D := D) (ci := 11) (C := RX11) (T := TX11) (N := 29) hx hb hts iw_X11_comesOut_X11 hown hK hP 0 rfl rfl 14 (by decide) (hts (.fieldLink RX11 33 "KingTableModel" "on" "[I") (List.mem_cons_of_mem _ (List.mem_append_left _ (List.mem_cons_of_mem _ (List.mem_cons_of_mem _ (List.mem_cons_of_mem _ (List.mem_cons_of_mem _ (List.Mem.head _)))))))) (fun _ h9 => h9) rfl dX11_comesOut_119 ?_
              refine lv_iload hx hb dX11_comesOut_122 (lv_at hl 0 rfl) ?_
              have hi_7 : vp_in r_97 81 := by exact kt_in (by omega) (by omega)
              refine va_iald hx hb hK hP 2 0 rfl rfl hi_7 dX11_comesOut_124 ?_
              refine lv_topi (fun a_124 ea_124 => ?_)
              refine lv_iconst (v := (-1)) hx hb dX11_comesOut_125 (by decide) ?_
              refine lv_icmp_eq (tgt := 143) hx hb dX11_comesOut_126 (by decide) (fun c_126 => ?_) (fun c_126 => ?_)
              · have d_126 := c_126
                simp only [kt_lt, kt_le, kt_eq, kt_c0, kt_c1, kt_c2, kt_c3, kt_c4, kt_c8, kt_c9, kt_cm1, kt_c81, kt_c40, kt_c7, kt_c5, kt_c6, kt_c512, kt_c10, kt_c10000] at d_126
                have hsu := kt_sn_upd i1 (i := r_97.toNatClampNeg) (by rw [← ea_114]; exact c_115) (n := 81) (by show r_97.toInt.toNat < 81; omega)
                refine lv_aload_n hx hb dX11_comesOut_143 rfl (lv_at hl 5 rfl) ?_
                refine va_get (D := D) (ci := 11) (C := RX11) (T := TX11) (N := 29) hx hb hts iw_X11_comesOut_X11 hown hK hP 0 rfl rfl 22 (by decide) (hts (.fieldLink RX11 51 "KingTableModel" "met" "[Z") (List.mem_cons_of_mem _ (List.mem_append_left _ (List.Mem.head _)))) (fun _ h9 => h9) rfl dX11_comesOut_144 ?_
                refine lv_iload hx hb dX11_comesOut_147 (lv_at hl 0 rfl) ?_
                refine lv_iconst (v := 1) hx hb dX11_comesOut_149 (by decide) ?_
                have hi_8 : vp_in r_97 81 := by exact kt_in (by omega) (by omega)
                refine va_zast hx hb hK hP hD hS 4 1 rfl rfl hi_8 dX11_comesOut_150 (fun H locs hP hD hS => ?_)
                have hP : va_P D vwCl [(mx, .inr (11, [.int ml, .int mw, .ref ms, .int mgl, .int mhd, .int mre, .int mag, .int mkt, .int mho, .int mpc, .int msd, .int mki, .ref mk, .ref ma, .ref mo, .ref mg, .ref mm, .ref mt, .int mdn, .int mun, .ref mn, .int mtk, .ref me, .ref mq, .int msv, .ref mwo, .ref md, .ref mf, .ref mr])), (ma, .inl (cI, 40, .inl fa)), (mo, .inl (cI, 81, .inl fo)), (mg, .inl (cI, 81, .inl fr)), (me, .inl (cZ, 81, .inl (upd i1 r_97.toNatClampNeg (vp_nar .boolean 1)))), (mq, .inl (cI, 81, .inl i2))] H := hP
                have hD : va_D A [(mx, .inr (11, [.int ml, .int mw, .ref ms, .int mgl, .int mhd, .int mre, .int mag, .int mkt, .int mho, .int mpc, .int msd, .int mki, .ref mk, .ref ma, .ref mo, .ref mg, .ref mm, .ref mt, .int mdn, .int mun, .ref mn, .int mtk, .ref me, .ref mq, .int msv, .ref mwo, .ref md, .ref mf, .ref mr])), (ma, .inl (cI, 40, .inl fa)), (mo, .inl (cI, 81, .inl fo)), (mg, .inl (cI, 81, .inl fr)), (me, .inl (cZ, 81, .inl (upd i1 r_97.toNatClampNeg (vp_nar .boolean 1)))), (mq, .inl (cI, 81, .inl i2))] := hD
                refine lv_aload_n hx hb dX11_comesOut_151 rfl (lv_at hl 5 rfl) ?_
                refine va_get (D := D) (ci := 11) (C := RX11) (T := TX11) (N := 29) hx hb hts iw_X11_comesOut_X11 hown hK hP 0 rfl rfl 23 (by decide) (hts (.fieldLink RX11 54 "KingTableModel" "queue" "[I") (List.mem_cons_of_mem _ (List.mem_append_left _ (List.mem_cons_of_mem _ (List.Mem.head _))))) (fun _ h9 => h9) rfl dX11_comesOut_152 ?_
                refine lv_iload_n hx hb dX11_comesOut_155 rfl (lv_at hl 4 rfl) ?_
                refine lv_iload hx hb dX11_comesOut_156 (lv_at hl 0 rfl) ?_
                have hi_9 : vp_in tm 81 := by exact kt_in (by omega) (by omega)
                refine va_iast hx hb hK hP hD hS 5 0 rfl rfl hi_9 dX11_comesOut_158 (fun H locs hP hD hS => ?_)
                have hP : va_P D vwCl [(mx, .inr (11, [.int ml, .int mw, .ref ms, .int mgl, .int mhd, .int mre, .int mag, .int mkt, .int mho, .int mpc, .int msd, .int mki, .ref mk, .ref ma, .ref mo, .ref mg, .ref mm, .ref mt, .int mdn, .int mun, .ref mn, .int mtk, .ref me, .ref mq, .int msv, .ref mwo, .ref md, .ref mf, .ref mr])), (ma, .inl (cI, 40, .inl fa)), (mo, .inl (cI, 81, .inl fo)), (mg, .inl (cI, 81, .inl fr)), (me, .inl (cZ, 81, .inl (upd i1 r_97.toNatClampNeg (vp_nar .boolean 1)))), (mq, .inl (cI, 81, .inl (upd i2 tm.toNatClampNeg r_97)))] H := hP
                have hD : va_D A [(mx, .inr (11, [.int ml, .int mw, .ref ms, .int mgl, .int mhd, .int mre, .int mag, .int mkt, .int mho, .int mpc, .int msd, .int mki, .ref mk, .ref ma, .ref mo, .ref mg, .ref mm, .ref mt, .int mdn, .int mun, .ref mn, .int mtk, .ref me, .ref mq, .int msv, .ref mwo, .ref md, .ref mf, .ref mr])), (ma, .inl (cI, 40, .inl fa)), (mo, .inl (cI, 81, .inl fo)), (mg, .inl (cI, 81, .inl fr)), (me, .inl (cZ, 81, .inl (upd i1 r_97.toNatClampNeg (vp_nar .boolean 1)))), (mq, .inl (cI, 81, .inl (upd i2 tm.toNatClampNeg r_97)))] := hD
                obtain ⟨t_159, et_159⟩ : ∃ y : Int32, y = tm + 1 := ⟨_, rfl⟩
                obtain ⟨k_159, hk_159, hm_159, hM_159⟩ := kt_addk et_159
                try simp only [kt_c0, kt_c1, kt_c2, kt_c3, kt_c4, kt_c8, kt_c9, kt_cm1, kt_c81, kt_c40, kt_c7, kt_c5, kt_c6, kt_c512, kt_c10, kt_c10000] at hk_159
                refine lv_iinc (v := t_159) (lv' := [(3, .int t_159), (6, .int r_97), (5, .int (nI w)), (2, .int t_68), (4, .int a_65), (0, .ref mx), (1, .int p1)]) hx hb dX11_comesOut_159 hl (k := 4) rfl (by rw [et_159]; rfl) (by decide) rfl (fun ls hl => ?_)
                refine lv_iinc (v := nI (w + 1)) (lv' := [(5, .int (nI (w + 1))), (3, .int t_159), (6, .int r_97), (2, .int t_68), (4, .int a_65), (0, .ref mx), (1, .int p1)]) hx hb dX11_comesOut_162 hl (k := 2) rfl (nI_1 _) (by decide) rfl (fun ls hl => ?_)
                refine lv_goto (tgt := 85) hx hb dX11_comesOut_165 (by decide) ?_
                exact ih_85 ((w + 1), t_159, (upd i1 r_97.toNatClampNeg (vp_nar .boolean 1)), (upd i2 tm.toNatClampNeg r_97)) (by show ((w + 1) ≤ 4 ∧ 4 < (w + 1) + n_85) ∧ (0 ≤ t_159.toInt ∧ t_159.toInt = (kt_sn (upd i1 r_97.toNatClampNeg (vp_nar .boolean 1)) 81 : Int)) ∧ ∀ j : Nat, (j : Int) < t_159.toInt → 0 ≤ ((upd i2 tm.toNatClampNeg r_97) j).toInt ∧ ((upd i2 tm.toNatClampNeg r_97) j).toInt < ml.toInt * mw.toInt; first
                              | exact ⟨by omega, htl, hql⟩
                              | exact ⟨by omega, by rw [show kt_sn (upd i1 r_97.toNatClampNeg (vp_nar .boolean 1)) 81 = kt_sn i1 81 + 1 from hsu.1]; omega, fun j hj => if e : j = tm.toNatClampNeg then (by rw [e, pk_us]; omega) else (by rw [pk_un e]; exact hql j (by have : ¬ j = tm.toInt.toNat := e; omega))⟩) H _ hP hD hS ls (lv_sub hl [0, 3, 4, 1, 5, 6] rfl)
              · have d_126 := c_126
                simp only [kt_lt, kt_le, kt_eq, kt_c0, kt_c1, kt_c2, kt_c3, kt_c4, kt_c8, kt_c9, kt_cm1, kt_c81, kt_c40, kt_c7, kt_c5, kt_c6, kt_c512, kt_c10, kt_c10000] at d_126
                refine lv_aload_n hx hb dX11_comesOut_129 rfl (lv_at hl 5 rfl) ?_
                refine va_get (D := D) (ci := 11) (C := RX11) (T := TX11) (N := 29) hx hb hts iw_X11_comesOut_X11 hown hK hP 0 rfl rfl 14 (by decide) (hts (.fieldLink RX11 33 "KingTableModel" "on" "[I") (List.mem_cons_of_mem _ (List.mem_append_left _ (List.mem_cons_of_mem _ (List.mem_cons_of_mem _ (List.mem_cons_of_mem _ (List.mem_cons_of_mem _ (List.Mem.head _)))))))) (fun _ h9 => h9) rfl dX11_comesOut_130 ?_
                refine lv_iload hx hb dX11_comesOut_133 (lv_at hl 0 rfl) ?_
                have hi_10 : vp_in r_97 81 := by exact kt_in (by omega) (by omega)
                refine va_iald hx hb hK hP 2 0 rfl rfl hi_10 dX11_comesOut_135 ?_
                refine lv_topi (fun a_135 ea_135 => ?_)
                refine lv_iload_n hx hb dX11_comesOut_136 rfl (lv_at hl 6 rfl) ?_
                refine lv_icmp_eq (tgt := 143) hx hb dX11_comesOut_137 (by decide) (fun c_137 => ?_) (fun c_137 => ?_)
                · have d_137 := c_137
                  simp only [kt_lt, kt_le, kt_eq, kt_c0, kt_c1, kt_c2, kt_c3, kt_c4, kt_c8, kt_c9, kt_cm1, kt_c81, kt_c40, kt_c7, kt_c5, kt_c6, kt_c512, kt_c10, kt_c10000] at d_137
                  have hsu := kt_sn_upd i1 (i := r_97.toNatClampNeg) (by rw [← ea_114]; exact c_115) (n := 81) (by show r_97.toInt.toNat < 81; omega)
                  refine lv_aload_n hx hb dX11_comesOut_143 rfl (lv_at hl 5 rfl) ?_
                  refine va_get (D := D) (ci := 11) (C := RX11) (T := TX11) (N := 29) hx hb hts iw_X11_comesOut_X11 hown hK hP 0 rfl rfl 22 (by decide) (hts (.fieldLink RX11 51 "KingTableModel" "met" "[Z") (List.mem_cons_of_mem _ (List.mem_append_left _ (List.Mem.head _)))) (fun _ h9 => h9) rfl dX11_comesOut_144 ?_
                  refine lv_iload hx hb dX11_comesOut_147 (lv_at hl 0 rfl) ?_
                  refine lv_iconst (v := 1) hx hb dX11_comesOut_149 (by decide) ?_
                  have hi_11 : vp_in r_97 81 := by exact kt_in (by omega) (by omega)
                  refine va_zast hx hb hK hP hD hS 4 1 rfl rfl hi_11 dX11_comesOut_150 (fun H locs hP hD hS => ?_)
                  have hP : va_P D vwCl [(mx, .inr (11, [.int ml, .int mw, .ref ms, .int mgl, .int mhd, .int mre, .int mag, .int mkt, .int mho, .int mpc, .int msd, .int mki, .ref mk, .ref ma, .ref mo, .ref mg, .ref mm, .ref mt, .int mdn, .int mun, .ref mn, .int mtk, .ref me, .ref mq, .int msv, .ref mwo, .ref md, .ref mf, .ref mr])), (ma, .inl (cI, 40, .inl fa)), (mo, .inl (cI, 81, .inl fo)), (mg, .inl (cI, 81, .inl fr)), (me, .inl (cZ, 81, .inl (upd i1 r_97.toNatClampNeg (vp_nar .boolean 1)))), (mq, .inl (cI, 81, .inl i2))] H := hP
                  have hD : va_D A [(mx, .inr (11, [.int ml, .int mw, .ref ms, .int mgl, .int mhd, .int mre, .int mag, .int mkt, .int mho, .int mpc, .int msd, .int mki, .ref mk, .ref ma, .ref mo, .ref mg, .ref mm, .ref mt, .int mdn, .int mun, .ref mn, .int mtk, .ref me, .ref mq, .int msv, .ref mwo, .ref md, .ref mf, .ref mr])), (ma, .inl (cI, 40, .inl fa)), (mo, .inl (cI, 81, .inl fo)), (mg, .inl (cI, 81, .inl fr)), (me, .inl (cZ, 81, .inl (upd i1 r_97.toNatClampNeg (vp_nar .boolean 1)))), (mq, .inl (cI, 81, .inl i2))] := hD
                  refine lv_aload_n hx hb dX11_comesOut_151 rfl (lv_at hl 5 rfl) ?_
                  refine va_get (D := D) (ci := 11) (C := RX11) (T := TX11) (N := 29) hx hb hts iw_X11_comesOut_X11 hown hK hP 0 rfl rfl 23 (by decide) (hts (.fieldLink RX11 54 "KingTableModel" "queue" "[I") (List.mem_cons_of_mem _ (List.mem_append_left _ (List.mem_cons_of_mem _ (List.Mem.head _))))) (fun _ h9 => h9) rfl dX11_comesOut_152 ?_
                  refine lv_iload_n hx hb dX11_comesOut_155 rfl (lv_at hl 4 rfl) ?_
                  refine lv_iload hx hb dX11_comesOut_156 (lv_at hl 0 rfl) ?_
                  have hi_12 : vp_in tm 81 := by exact kt_in (by omega) (by omega)
                  refine va_iast hx hb hK hP hD hS 5 0 rfl rfl hi_12 dX11_comesOut_158 (fun H locs hP hD hS => ?_)
                  have hP : va_P D vwCl [(mx, .inr (11, [.int ml, .int mw, .ref ms, .int mgl, .int mhd, .int mre, .int mag, .int mkt, .int mho, .int mpc, .int msd, .int mki, .ref mk, .ref ma, .ref mo, .ref mg, .ref mm, .ref mt, .int mdn, .int mun, .ref mn, .int mtk, .ref me, .ref mq, .int msv, .ref mwo, .ref md, .ref mf, .ref mr])), (ma, .inl (cI, 40, .inl fa)), (mo, .inl (cI, 81, .inl fo)), (mg, .inl (cI, 81, .inl fr)), (me, .inl (cZ, 81, .inl (upd i1 r_97.toNatClampNeg (vp_nar .boolean 1)))), (mq, .inl (cI, 81, .inl (upd i2 tm.toNatClampNeg r_97)))] H := hP
                  have hD : va_D A [(mx, .inr (11, [.int ml, .int mw, .ref ms, .int mgl, .int mhd, .int mre, .int mag, .int mkt, .int mho, .int mpc, .int msd, .int mki, .ref mk, .ref ma, .ref mo, .ref mg, .ref mm, .ref mt, .int mdn, .int mun, .ref mn, .int mtk, .ref me, .ref mq, .int msv, .ref mwo, .ref md, .ref mf, .ref mr])), (ma, .inl (cI, 40, .inl fa)), (mo, .inl (cI, 81, .inl fo)), (mg, .inl (cI, 81, .inl fr)), (me, .inl (cZ, 81, .inl (upd i1 r_97.toNatClampNeg (vp_nar .boolean 1)))), (mq, .inl (cI, 81, .inl (upd i2 tm.toNatClampNeg r_97)))] := hD
                  obtain ⟨t_159, et_159⟩ : ∃ y : Int32, y = tm + 1 := ⟨_, rfl⟩
                  obtain ⟨k_159, hk_159, hm_159, hM_159⟩ := kt_addk et_159
                  try simp only [kt_c0, kt_c1, kt_c2, kt_c3, kt_c4, kt_c8, kt_c9, kt_cm1, kt_c81, kt_c40, kt_c7, kt_c5, kt_c6, kt_c512, kt_c10, kt_c10000] at hk_159
                  refine lv_iinc (v := t_159) (lv' := [(3, .int t_159), (6, .int r_97), (5, .int (nI w)), (2, .int t_68), (4, .int a_65), (0, .ref mx), (1, .int p1)]) hx hb dX11_comesOut_159 hl (k := 4) rfl (by rw [et_159]; rfl) (by decide) rfl (fun ls hl => ?_)
                  refine lv_iinc (v := nI (w + 1)) (lv' := [(5, .int (nI (w + 1))), (3, .int t_159), (6, .int r_97), (2, .int t_68), (4, .int a_65), (0, .ref mx), (1, .int p1)]) hx hb dX11_comesOut_162 hl (k := 2) rfl (nI_1 _) (by decide) rfl (fun ls hl => ?_)
                  refine lv_goto (tgt := 85) hx hb dX11_comesOut_165 (by decide) ?_
                  exact ih_85 ((w + 1), t_159, (upd i1 r_97.toNatClampNeg (vp_nar .boolean 1)), (upd i2 tm.toNatClampNeg r_97)) (by show ((w + 1) ≤ 4 ∧ 4 < (w + 1) + n_85) ∧ (0 ≤ t_159.toInt ∧ t_159.toInt = (kt_sn (upd i1 r_97.toNatClampNeg (vp_nar .boolean 1)) 81 : Int)) ∧ ∀ j : Nat, (j : Int) < t_159.toInt → 0 ≤ ((upd i2 tm.toNatClampNeg r_97) j).toInt ∧ ((upd i2 tm.toNatClampNeg r_97) j).toInt < ml.toInt * mw.toInt; first
                                | exact ⟨by omega, htl, hql⟩
                                | exact ⟨by omega, by rw [show kt_sn (upd i1 r_97.toNatClampNeg (vp_nar .boolean 1)) 81 = kt_sn i1 81 + 1 from hsu.1]; omega, fun j hj => if e : j = tm.toNatClampNeg then (by rw [e, pk_us]; omega) else (by rw [pk_un e]; exact hql j (by have : ¬ j = tm.toInt.toNat := e; omega))⟩) H _ hP hD hS ls (lv_sub hl [0, 3, 4, 1, 5, 6] rfl)
                · have d_137 := c_137
                  simp only [kt_lt, kt_le, kt_eq, kt_c0, kt_c1, kt_c2, kt_c3, kt_c4, kt_c8, kt_c9, kt_cm1, kt_c81, kt_c40, kt_c7, kt_c5, kt_c6, kt_c512, kt_c10, kt_c10000] at d_137
                  refine lv_goto (tgt := 162) hx hb dX11_comesOut_140 (by decide) ?_
                  refine lv_iinc (v := nI (w + 1)) (lv' := [(5, .int (nI (w + 1))), (6, .int r_97), (2, .int t_68), (4, .int a_65), (3, .int tm), (0, .ref mx), (1, .int p1)]) hx hb dX11_comesOut_162 hl (k := 1) rfl (nI_1 _) (by decide) rfl (fun ls hl => ?_)
                  refine lv_goto (tgt := 85) hx hb dX11_comesOut_165 (by decide) ?_
                  exact ih_85 ((w + 1), tm, i1, i2) (by show ((w + 1) ≤ 4 ∧ 4 < (w + 1) + n_85) ∧ (0 ≤ tm.toInt ∧ tm.toInt = (kt_sn i1 81 : Int)) ∧ ∀ j : Nat, (j : Int) < tm.toInt → 0 ≤ (i2 j).toInt ∧ (i2 j).toInt < ml.toInt * mw.toInt; first
                                | exact ⟨by omega, htl, hql⟩
                                | exact ⟨by omega, by rw [show kt_sn (upd i1 r_97.toNatClampNeg (vp_nar .boolean 1)) 81 = kt_sn i1 81 + 1 from hsu.1]; omega, fun j hj => if e : j = tm.toNatClampNeg then (by rw [e, pk_us]; omega) else (by rw [pk_un e]; exact hql j (by have : ¬ j = tm.toInt.toNat := e; omega))⟩) H _ hP hD hS ls (lv_sub hl [0, 2, 3, 4, 5, 6] rfl)
      · have d_77 := c_77
        simp only [kt_lt, kt_le, kt_eq, kt_c0, kt_c1, kt_c2, kt_c3, kt_c4, kt_c8, kt_c9, kt_cm1, kt_c81, kt_c40, kt_c7, kt_c5, kt_c6, kt_c512, kt_c10, kt_c10000] at d_77
        refine lv_iconst (v := 1) hx hb dX11_comesOut_80 (by decide) ?_
        exact kt_rz (g1, g2) hx hb hr hlk hS dX11_comesOut_81 hP hD (by show 0 ≤ (1 : Int32).toInt ∧ (1 : Int32).toInt ≤ 1; decide) rfl
  · have d_5 := c_5
    simp only [kt_lt, kt_le, kt_eq, kt_c0, kt_c1, kt_c2, kt_c3, kt_c4, kt_c8, kt_c9, kt_cm1, kt_c81, kt_c40, kt_c7, kt_c5, kt_c6, kt_c512, kt_c10, kt_c10000] at d_5
    refine lv_aload_n hx hb dX11_comesOut_8 rfl (lv_at hl 1 rfl) ?_
    refine va_get (D := D) (ci := 11) (C := RX11) (T := TX11) (N := 29) hx hb hts iw_X11_comesOut_X11 hown hK hP 0 rfl rfl 22 (by decide) (hts (.fieldLink RX11 51 "KingTableModel" "met" "[Z") (List.mem_cons_of_mem _ (List.mem_append_left _ (List.Mem.head _)))) (fun _ h9 => h9) rfl dX11_comesOut_9 ?_
    refine lv_iload_n hx hb dX11_comesOut_12 rfl (lv_at hl 0 rfl) ?_
    refine lv_iconst (v := 0) hx hb dX11_comesOut_13 (by decide) ?_
    have hi_13 : vp_in (nI k) 81 := by exact kt_in (by omega) (by omega)
    refine va_zast hx hb hK hP hD hS 4 1 rfl rfl hi_13 dX11_comesOut_14 (fun H locs hP hD hS => ?_)
    have hP : va_P D vwCl [(mx, .inr (11, [.int ml, .int mw, .ref ms, .int mgl, .int mhd, .int mre, .int mag, .int mkt, .int mho, .int mpc, .int msd, .int mki, .ref mk, .ref ma, .ref mo, .ref mg, .ref mm, .ref mt, .int mdn, .int mun, .ref mn, .int mtk, .ref me, .ref mq, .int msv, .ref mwo, .ref md, .ref mf, .ref mr])), (ma, .inl (cI, 40, .inl fa)), (mo, .inl (cI, 81, .inl fo)), (mg, .inl (cI, 81, .inl fr)), (me, .inl (cZ, 81, .inl (upd z (nI k).toNatClampNeg (vp_nar .boolean 0)))), (mq, .inl (cI, 81, .inl fq))] H := hP
    have hD : va_D A [(mx, .inr (11, [.int ml, .int mw, .ref ms, .int mgl, .int mhd, .int mre, .int mag, .int mkt, .int mho, .int mpc, .int msd, .int mki, .ref mk, .ref ma, .ref mo, .ref mg, .ref mm, .ref mt, .int mdn, .int mun, .ref mn, .int mtk, .ref me, .ref mq, .int msv, .ref mwo, .ref md, .ref mf, .ref mr])), (ma, .inl (cI, 40, .inl fa)), (mo, .inl (cI, 81, .inl fo)), (mg, .inl (cI, 81, .inl fr)), (me, .inl (cZ, 81, .inl (upd z (nI k).toNatClampNeg (vp_nar .boolean 0)))), (mq, .inl (cI, 81, .inl fq))] := hD
    refine lv_iinc (v := nI (k + 1)) (lv' := [(2, .int (nI (k + 1))), (0, .ref mx), (1, .int p1)]) hx hb dX11_comesOut_15 hl (k := 0) rfl (nI_1 _) (by decide) rfl (fun ls hl => ?_)
    refine lv_goto (tgt := 2) hx hb dX11_comesOut_18 (by decide) ?_
    exact ih_2 ((k + 1), (upd z (nI k).toNatClampNeg (vp_nar .boolean 0))) (by show ((k + 1) ≤ 81 ∧ 81 < (k + 1) + n_2) ∧ ∀ j, j < (k + 1) → (upd z (nI k).toNatClampNeg (vp_nar .boolean 0)) j = 0; refine ⟨by omega, fun j hj => ?_⟩; rw [nI_clamp (by omega)]; exact if hjk : j = k then (by rw [hjk, pk_us]; rfl) else (by rw [pk_un hjk]; exact hz j (by omega))) H _ hP hD hS ls (lv_sub hl [0, 1, 2] rfl)

theorem iw_X11_ring_X11 : ∀ w ∈ wsX110, w ∈ wsX11_ring := fun _ h => kt_wp_X11_ring__X110 h
set_option maxHeartbeats 4000000 in
set_option maxRecDepth 100000 in
theorem c_X11_ring (l : Launch) (D : va_G) (cI cZ cB : ClassId) (sz : Nat) (mx : Nat) (ms : Nat) (mk : Nat) (ma : Nat) (mo : Nat) (mg : Nat) (mm : Nat) (mt : Nat) (mn : Nat) (me : Nat) (mq : Nat) (mwo : Nat) (md : Nat) (mf : Nat) (mr : Nat) (ml : Int32) (mw : Int32) (mgl : Int32) (mhd : Int32) (mre : Int32) (mag : Int32) (mkt : Int32) (mho : Int32) (mpc : Int32) (msd : Int32) (mki : Int32) (mdn : Int32) (mun : Int32) (mtk : Int32) (msv : Int32) (P_ : Nat) (fa : Nat → Int32) (fo : Nat → Int32) (fr : Nat → Int32) (fk : Nat → Int32) (ft : Nat → Int32) (gs_ : Nat → Int32) (mv : Nat → Int32) (fe : Nat → Int32) (fq : Nat → Int32) (hml_ : 2 ≤ ml.toInt ∧ ml.toInt ≤ 9) (hmw : 2 ≤ mw.toInt ∧ mw.toInt ≤ 9) (hpi : ¬ mho.toInt = 0 → kt_PI ml mw mpc msd mki mdn mun mkt mhd fr fk fa fo mv gs_ P_) (hho : 0 ≤ mho.toInt ∧ mho.toInt ≤ 4) : kt_Mi l yX11_ring wsX11_ring { frames := 3, cells := 0, slots := 0, locals := 67 } D (kt_ty cI cZ cB) [.ref mx] sz [(mx, .inr (11, [.int ml, .int mw, .ref ms, .int mgl, .int mhd, .int mre, .int mag, .int mkt, .int mho, .int mpc, .int msd, .int mki, .ref mk, .ref ma, .ref mo, .ref mg, .ref mm, .ref mt, .int mdn, .int mun, .ref mn, .int mtk, .ref me, .ref mq, .int msv, .ref mwo, .ref md, .ref mf, .ref mr])), (ma, .inl (cI, 40, .inl fa)), (mo, .inl (cI, 81, .inl fo)), (mg, .inl (cI, 81, .inl fr)), (me, .inl (cZ, 81, .inl fe)), (mq, .inl (cI, 81, .inl fq))] (fun (r : Int32) (u : (Nat → Int32) × (Nat → Int32)) => 0 ≤ r.toInt ∧ r.toInt ≤ 1 ∧ (r.toInt = 1 → ¬ mho.toInt = 0 ∧ 0 ≤ (fa mki.toNatClampNeg).toInt)) (fun (u : (Nat → Int32) × (Nat → Int32)) => [(mx, .inr (11, [.int ml, .int mw, .ref ms, .int mgl, .int mhd, .int mre, .int mag, .int mkt, .int mho, .int mpc, .int msd, .int mki, .ref mk, .ref ma, .ref mo, .ref mg, .ref mm, .ref mt, .int mdn, .int mun, .ref mn, .int mtk, .ref me, .ref mq, .int msv, .ref mwo, .ref md, .ref mf, .ref mr])), (ma, .inl (cI, 40, .inl fa)), (mo, .inl (cI, 81, .inl fo)), (mg, .inl (cI, 81, .inl fr)), (me, .inl (cZ, 81, .inl u.1)), (mq, .inl (cI, 81, .inl u.2))]) 0 0 := by
  refine kt_Mi.of (cc := cX11_ring) (maxL := 1) (ret := some .boolean) (by decide) rfl (Nat.le_of_ble_eq_true rfl) ?_
  intro p e s m below meth c A ls H hAt hP hD hS hl
  obtain ⟨hx, hb, hr, hml, hown, hts, hN, hK, hlk, hnm, hA⟩ := hAt
  have hl : lv_has ls 1 [(0, .ref mx)] := hl
  have hown : s.vm.findClass RX11 = some m.cls := hown
  have hsb := kt_mulb hml_ hmw
  refine lv_aload_n hx hb dX11_ring_0 rfl (lv_at hl 0 rfl) ?_
  refine va_get (D := D) (ci := 11) (C := RX11) (T := TX11) (N := 29) hx hb hts iw_X11_ring_X11 hown hK hP 0 rfl rfl 8 (by decide) (hts (.fieldLink RX11 73 "KingTableModel" "how" "I") (kt_wp_X11_ring__X11_ring_r1 kt_wm0)) (fun _ h9 => h9) rfl dX11_ring_1 ?_
  refine lv_if_le (tgt := 48) hx hb dX11_ring_4 (by decide) (fun c_4 => ?_) (fun c_4 => ?_)
  · have d_4 := c_4
    simp only [kt_lt, kt_le, kt_eq, kt_c0, kt_c1, kt_c2, kt_c3, kt_c4, kt_c8, kt_c9, kt_cm1, kt_c81, kt_c40, kt_c7, kt_c5, kt_c6, kt_c512, kt_c10, kt_c10000] at d_4
    refine lv_iconst (v := 0) hx hb dX11_ring_48 (by decide) ?_
    exact kt_rz (fe, fq) hx hb hr hlk hS dX11_ring_49 hP hD (by show 0 ≤ (0 : Int32).toInt ∧ (0 : Int32).toInt ≤ 1 ∧ ((0 : Int32).toInt = 1 → ¬ mho.toInt = 0 ∧ 0 ≤ (fa mki.toNatClampNeg).toInt); first | exact ⟨by decide, by decide, fun h => absurd h (by decide)⟩ | exact ⟨by decide, by decide, fun _ => ⟨by omega, by omega⟩⟩) rfl
  · have d_4 := c_4
    simp only [kt_lt, kt_le, kt_eq, kt_c0, kt_c1, kt_c2, kt_c3, kt_c4, kt_c8, kt_c9, kt_cm1, kt_c81, kt_c40, kt_c7, kt_c5, kt_c6, kt_c512, kt_c10, kt_c10000] at d_4
    have hpl := hpi (by omega)
    obtain ⟨⟨hpc, hki, hsd, hdn0, hun0⟩, ⟨hfa, hco, hcc⟩, hinj, hrows, hcut, hlgl⟩ := hpl
    have hkr := hfa.get (kt_in (x := mki) (n := P_) (by omega) (by omega))
    refine lv_aload_n hx hb dX11_ring_7 rfl (lv_at hl 0 rfl) ?_
    refine va_get (D := D) (ci := 11) (C := RX11) (T := TX11) (N := 29) hx hb hts iw_X11_ring_X11 hown hK hP 0 rfl rfl 13 (by decide) (hts (.fieldLink RX11 30 "KingTableModel" "at" "[I") (kt_wp_X11_ring__X11_ring_r1 kt_wm1)) (fun _ h9 => h9) rfl dX11_ring_8 ?_
    refine lv_aload_n hx hb dX11_ring_11 rfl (lv_at hl 0 rfl) ?_
    refine va_get (D := D) (ci := 11) (C := RX11) (T := TX11) (N := 29) hx hb hts iw_X11_ring_X11 hown hK hP 0 rfl rfl 11 (by decide) (hts (.fieldLink RX11 135 "KingTableModel" "king" "I") (kt_wp_X11_ring__X11_ring_r1 kt_wm2)) (fun _ h9 => h9) rfl dX11_ring_12 ?_
    have hi_1 : vp_in mki 40 := by exact kt_in (by omega) (by omega)
    refine va_iald hx hb hK hP 1 0 rfl rfl hi_1 dX11_ring_15 ?_
    refine lv_topi (fun a_15 ea_15 => ?_)
    have hk15 : a_15.toInt = (fa mki.toNatClampNeg).toInt := by rw [ea_15]
    refine lv_iconst (v := (-1)) hx hb dX11_ring_16 (by decide) ?_
    refine lv_icmp_eq (tgt := 48) hx hb dX11_ring_17 (by decide) (fun c_17 => ?_) (fun c_17 => ?_)
    · have d_17 := c_17
      simp only [kt_lt, kt_le, kt_eq, kt_c0, kt_c1, kt_c2, kt_c3, kt_c4, kt_c8, kt_c9, kt_cm1, kt_c81, kt_c40, kt_c7, kt_c5, kt_c6, kt_c512, kt_c10, kt_c10000] at d_17
      refine lv_iconst (v := 0) hx hb dX11_ring_48 (by decide) ?_
      exact kt_rz (fe, fq) hx hb hr hlk hS dX11_ring_49 hP hD (by show 0 ≤ (0 : Int32).toInt ∧ (0 : Int32).toInt ≤ 1 ∧ ((0 : Int32).toInt = 1 → ¬ mho.toInt = 0 ∧ 0 ≤ (fa mki.toNatClampNeg).toInt); first | exact ⟨by decide, by decide, fun h => absurd h (by decide)⟩ | exact ⟨by decide, by decide, fun _ => ⟨by omega, by omega⟩⟩) rfl
    · have d_17 := c_17
      simp only [kt_lt, kt_le, kt_eq, kt_c0, kt_c1, kt_c2, kt_c3, kt_c4, kt_c8, kt_c9, kt_cm1, kt_c81, kt_c40, kt_c7, kt_c5, kt_c6, kt_c512, kt_c10, kt_c10000] at d_17
      refine lv_aload_n hx hb dX11_ring_20 rfl (lv_at hl 0 rfl) ?_
      refine lv_aload_n hx hb dX11_ring_21 rfl (lv_at hl 0 rfl) ?_
      refine va_get (D := D) (ci := 11) (C := RX11) (T := TX11) (N := 29) hx hb hts iw_X11_ring_X11 hown hK hP 0 rfl rfl 13 (by decide) (hts (.fieldLink RX11 30 "KingTableModel" "at" "[I") (kt_wp_X11_ring__X11_ring_r1 kt_wm1)) (fun _ h9 => h9) rfl dX11_ring_22 ?_
      refine lv_aload_n hx hb dX11_ring_25 rfl (lv_at hl 0 rfl) ?_
      refine va_get (D := D) (ci := 11) (C := RX11) (T := TX11) (N := 29) hx hb hts iw_X11_ring_X11 hown hK hP 0 rfl rfl 11 (by decide) (hts (.fieldLink RX11 135 "KingTableModel" "king" "I") (kt_wp_X11_ring__X11_ring_r1 kt_wm2)) (fun _ h9 => h9) rfl dX11_ring_26 ?_
      have hi_2 : vp_in mki 40 := by exact kt_in (by omega) (by omega)
      refine va_iald hx hb hK hP 1 0 rfl rfl hi_2 dX11_ring_29 ?_
      refine lv_topi (fun a_29 ea_29 => ?_)
      have hk29 : a_29.toInt = (fa mki.toNatClampNeg).toInt := by rw [ea_29]
      refine kt_pi (wc := [(mx, .inr (11, [.int ml, .int mw, .ref ms, .int mgl, .int mhd, .int mre, .int mag, .int mkt, .int mho, .int mpc, .int msd, .int mki, .ref mk, .ref ma, .ref mo, .ref mg, .ref mm, .ref mt, .int mdn, .int mun, .ref mn, .int mtk, .ref me, .ref mq, .int msv, .ref mwo, .ref md, .ref mf, .ref mr])), (mg, .inl (cI, 81, .inl fr))]) [0, 3] hP hD hS hA rfl (by decide) (fun hPc hDc => va_runV (As := [.int a_29]) (rest := []) ⟨hx, hb, hml, hown, hts⟩ (c_X11_isGoal l D cI cZ cB H.size mx ms mk ma mo mg mm mt mn me mq mwo md mf mr ml mw mgl mhd mre mag mkt mho mpc msd mki mdn mun mtk msv fr a_29 (by first | assumption | omega | rfl | decide) (by first | assumption | omega | rfl | decide) (by first | assumption | omega | rfl | decide)) (cwV 1 hts gX11_ring_X11_isGoal rfl rfl rfl (by decide +kernel) ⟨Nat.le_of_ble_eq_true rfl, Nat.le_of_ble_eq_true rfl⟩) (kt_preV hN hK hPc hDc 0 (ci := 11) (q := (RX11, TX11, 29)) rfl rfl) rfl rfl hl.1 rfl (lv_room (Nat.le_of_ble_eq_true rfl)) dX11_ring_30 ⟨Nat.le_of_ble_eq_true rfl, Nat.le_of_ble_eq_true rfl⟩) (fun r_30 _ H locs hw_30 hP hS => ?_)
      refine lv_if_ne (tgt := 48) hx hb dX11_ring_33 (by decide) (fun c_33 => ?_) (fun c_33 => ?_)
      · have d_33 := c_33
        simp only [kt_lt, kt_le, kt_eq, kt_c0, kt_c1, kt_c2, kt_c3, kt_c4, kt_c8, kt_c9, kt_cm1, kt_c81, kt_c40, kt_c7, kt_c5, kt_c6, kt_c512, kt_c10, kt_c10000] at d_33
        refine lv_iconst (v := 0) hx hb dX11_ring_48 (by decide) ?_
        exact kt_rz (fe, fq) hx hb hr hlk hS dX11_ring_49 hP hD (by show 0 ≤ (0 : Int32).toInt ∧ (0 : Int32).toInt ≤ 1 ∧ ((0 : Int32).toInt = 1 → ¬ mho.toInt = 0 ∧ 0 ≤ (fa mki.toNatClampNeg).toInt); first | exact ⟨by decide, by decide, fun h => absurd h (by decide)⟩ | exact ⟨by decide, by decide, fun _ => ⟨by omega, by omega⟩⟩) rfl
      · have d_33 := c_33
        simp only [kt_lt, kt_le, kt_eq, kt_c0, kt_c1, kt_c2, kt_c3, kt_c4, kt_c8, kt_c9, kt_cm1, kt_c81, kt_c40, kt_c7, kt_c5, kt_c6, kt_c512, kt_c10, kt_c10000] at d_33
        refine lv_aload_n hx hb dX11_ring_36 rfl (lv_at hl 0 rfl) ?_
        refine lv_iconst (v := (-1)) hx hb dX11_ring_37 (by decide) ?_
        refine kt_bi (wc := [(mx, .inr (11, [.int ml, .int mw, .ref ms, .int mgl, .int mhd, .int mre, .int mag, .int mkt, .int mho, .int mpc, .int msd, .int mki, .ref mk, .ref ma, .ref mo, .ref mg, .ref mm, .ref mt, .int mdn, .int mun, .ref mn, .int mtk, .ref me, .ref mq, .int msv, .ref mwo, .ref md, .ref mf, .ref mr])), (ma, .inl (cI, 40, .inl fa)), (mo, .inl (cI, 81, .inl fo)), (mg, .inl (cI, 81, .inl fr)), (me, .inl (cZ, 81, .inl fe)), (mq, .inl (cI, 81, .inl fq))]) (wr := []) [0, 1, 2, 3, 4, 5] [] hP hD hS hA rfl rfl (by decide) (by decide) (by decide) (fun hPc hDc => va_runV (As := [.int (-1)]) (rest := []) ⟨hx, hb, hml, hown, hts⟩ (c_X11_comesOut l D cI cZ cB H.size mx ms mk ma mo mg mm mt mn me mq mwo md mf mr ml mw mgl mhd mre mag mkt mho mpc msd mki mdn mun mtk msv P_ fa fo fr fe fq (-1) hml_ hmw hpc hfa hki (by omega)) (cwV 1 hts gX11_ring_X11_comesOut rfl rfl rfl (by decide +kernel) ⟨Nat.le_of_ble_eq_true rfl, Nat.le_of_ble_eq_true rfl⟩) (kt_preV hN hK hPc hDc 0 (ci := 11) (q := (RX11, TX11, 29)) rfl rfl) rfl rfl hl.1 rfl (lv_room (Nat.le_of_ble_eq_true rfl)) dX11_ring_38 ⟨Nat.le_of_ble_eq_true rfl, Nat.le_of_ble_eq_true rfl⟩) (fun r_38 u_ H locs hw_38 hP hD hS => ?_)
        obtain ⟨fe2_38, fq2_38⟩ := u_
        have hP : va_P D vwCl [(mx, .inr (11, [.int ml, .int mw, .ref ms, .int mgl, .int mhd, .int mre, .int mag, .int mkt, .int mho, .int mpc, .int msd, .int mki, .ref mk, .ref ma, .ref mo, .ref mg, .ref mm, .ref mt, .int mdn, .int mun, .ref mn, .int mtk, .ref me, .ref mq, .int msv, .ref mwo, .ref md, .ref mf, .ref mr])), (ma, .inl (cI, 40, .inl fa)), (mo, .inl (cI, 81, .inl fo)), (mg, .inl (cI, 81, .inl fr)), (me, .inl (cZ, 81, .inl fe2_38)), (mq, .inl (cI, 81, .inl fq2_38))] H := hP.sub [0, 1, 2, 3, 4, 5] rfl
        have hD : va_D A [(mx, .inr (11, [.int ml, .int mw, .ref ms, .int mgl, .int mhd, .int mre, .int mag, .int mkt, .int mho, .int mpc, .int msd, .int mki, .ref mk, .ref ma, .ref mo, .ref mg, .ref mm, .ref mt, .int mdn, .int mun, .ref mn, .int mtk, .ref me, .ref mq, .int msv, .ref mwo, .ref md, .ref mf, .ref mr])), (ma, .inl (cI, 40, .inl fa)), (mo, .inl (cI, 81, .inl fo)), (mg, .inl (cI, 81, .inl fr)), (me, .inl (cZ, 81, .inl fe2_38)), (mq, .inl (cI, 81, .inl fq2_38))] := hD.sub [0, 1, 2, 3, 4, 5] (by decide) rfl
        try dsimp only at hw_38
        refine lv_if_ne (tgt := 48) hx hb dX11_ring_41 (by decide) (fun c_41 => ?_) (fun c_41 => ?_)
        · have d_41 := c_41
          simp only [kt_lt, kt_le, kt_eq, kt_c0, kt_c1, kt_c2, kt_c3, kt_c4, kt_c8, kt_c9, kt_cm1, kt_c81, kt_c40, kt_c7, kt_c5, kt_c6, kt_c512, kt_c10, kt_c10000] at d_41
          refine lv_iconst (v := 0) hx hb dX11_ring_48 (by decide) ?_
          exact kt_rz (fe2_38, fq2_38) hx hb hr hlk hS dX11_ring_49 hP hD (by show 0 ≤ (0 : Int32).toInt ∧ (0 : Int32).toInt ≤ 1 ∧ ((0 : Int32).toInt = 1 → ¬ mho.toInt = 0 ∧ 0 ≤ (fa mki.toNatClampNeg).toInt); first | exact ⟨by decide, by decide, fun h => absurd h (by decide)⟩ | exact ⟨by decide, by decide, fun _ => ⟨by omega, by omega⟩⟩) rfl
        · have d_41 := c_41
          simp only [kt_lt, kt_le, kt_eq, kt_c0, kt_c1, kt_c2, kt_c3, kt_c4, kt_c8, kt_c9, kt_cm1, kt_c81, kt_c40, kt_c7, kt_c5, kt_c6, kt_c512, kt_c10, kt_c10000] at d_41
          refine lv_iconst (v := 1) hx hb dX11_ring_44 (by decide) ?_
          refine lv_goto (tgt := 49) hx hb dX11_ring_45 (by decide) ?_
          exact kt_rz (fe2_38, fq2_38) hx hb hr hlk hS dX11_ring_49 hP hD (by show 0 ≤ (1 : Int32).toInt ∧ (1 : Int32).toInt ≤ 1 ∧ ((1 : Int32).toInt = 1 → ¬ mho.toInt = 0 ∧ 0 ≤ (fa mki.toNatClampNeg).toInt); first | exact ⟨by decide, by decide, fun h => absurd h (by decide)⟩ | exact ⟨by decide, by decide, fun _ => ⟨by omega, by omega⟩⟩) rfl

theorem iw_X11_needed_X11 : ∀ w ∈ wsX110, w ∈ wsX11_needed := fun _ h => kt_wp_X11_needed__X110 h
set_option maxHeartbeats 4000000 in
set_option maxRecDepth 100000 in
theorem c_X11_needed (l : Launch) (D : va_G) (cI cZ cB : ClassId) (sz : Nat) (mx : Nat) (ms : Nat) (mk : Nat) (ma : Nat) (mo : Nat) (mg : Nat) (mm : Nat) (mt : Nat) (mn : Nat) (me : Nat) (mq : Nat) (mwo : Nat) (md : Nat) (mf : Nat) (mr : Nat) (ml : Int32) (mw : Int32) (mgl : Int32) (mhd : Int32) (mre : Int32) (mag : Int32) (mkt : Int32) (mho : Int32) (mpc : Int32) (msd : Int32) (mki : Int32) (mdn : Int32) (mun : Int32) (mtk : Int32) (msv : Int32) (P_ : Nat) (fa : Nat → Int32) (fo : Nat → Int32) (fr : Nat → Int32) (fk : Nat → Int32) (ft : Nat → Int32) (gs_ : Nat → Int32) (mv : Nat → Int32) (fe : Nat → Int32) (fq : Nat → Int32) (p1 : Int32) (hml_ : 2 ≤ ml.toInt ∧ ml.toInt ≤ 9) (hmw : 2 ≤ mw.toInt ∧ mw.toInt ≤ 9) (hpi : ¬ mho.toInt = 0 → kt_PI ml mw mpc msd mki mdn mun mkt mhd fr fk fa fo mv gs_ P_) (hho : 0 ≤ mho.toInt ∧ mho.toInt ≤ 4) : kt_Mi l yX11_needed wsX11_needed { frames := 4, cells := 0, slots := 0, locals := 87 } D (kt_ty cI cZ cB) [.ref mx, .int p1] sz [(mx, .inr (11, [.int ml, .int mw, .ref ms, .int mgl, .int mhd, .int mre, .int mag, .int mkt, .int mho, .int mpc, .int msd, .int mki, .ref mk, .ref ma, .ref mo, .ref mg, .ref mm, .ref mt, .int mdn, .int mun, .ref mn, .int mtk, .ref me, .ref mq, .int msv, .ref mwo, .ref md, .ref mf, .ref mr])), (ma, .inl (cI, 40, .inl fa)), (mo, .inl (cI, 81, .inl fo)), (mg, .inl (cI, 81, .inl fr)), (me, .inl (cZ, 81, .inl fe)), (mq, .inl (cI, 81, .inl fq)), (mk, .inl (cI, 40, .inl fk))] (fun (r : Int32) (u : (Nat → Int32) × (Nat → Int32)) => 0 ≤ r.toInt ∧ r.toInt ≤ 1) (fun (u : (Nat → Int32) × (Nat → Int32)) => [(mx, .inr (11, [.int ml, .int mw, .ref ms, .int mgl, .int mhd, .int mre, .int mag, .int mkt, .int mho, .int mpc, .int msd, .int mki, .ref mk, .ref ma, .ref mo, .ref mg, .ref mm, .ref mt, .int mdn, .int mun, .ref mn, .int mtk, .ref me, .ref mq, .int msv, .ref mwo, .ref md, .ref mf, .ref mr])), (ma, .inl (cI, 40, .inl fa)), (mo, .inl (cI, 81, .inl fo)), (mg, .inl (cI, 81, .inl fr)), (me, .inl (cZ, 81, .inl u.1)), (mq, .inl (cI, 81, .inl u.2)), (mk, .inl (cI, 40, .inl fk))]) 0 0 := by
  refine kt_Mi.of (cc := cX11_needed) (maxL := 2) (ret := some .boolean) (by decide) rfl (Nat.le_of_ble_eq_true rfl) ?_
  intro p e s m below meth c A ls H hAt hP hD hS hl
  obtain ⟨hx, hb, hr, hml, hown, hts, hN, hK, hlk, hnm, hA⟩ := hAt
  have hl : lv_has ls 2 [(0, .ref mx), (1, .int p1)] := hl
  have hown : s.vm.findClass RX11 = some m.cls := hown
  have hsb := kt_mulb hml_ hmw
  refine lv_aload_n hx hb dX11_needed_0 rfl (lv_at hl 0 rfl) ?_
  refine kt_bi (wc := [(mx, .inr (11, [.int ml, .int mw, .ref ms, .int mgl, .int mhd, .int mre, .int mag, .int mkt, .int mho, .int mpc, .int msd, .int mki, .ref mk, .ref ma, .ref mo, .ref mg, .ref mm, .ref mt, .int mdn, .int mun, .ref mn, .int mtk, .ref me, .ref mq, .int msv, .ref mwo, .ref md, .ref mf, .ref mr])), (ma, .inl (cI, 40, .inl fa)), (mo, .inl (cI, 81, .inl fo)), (mg, .inl (cI, 81, .inl fr)), (me, .inl (cZ, 81, .inl fe)), (mq, .inl (cI, 81, .inl fq))]) (wr := [(mk, .inl (cI, 40, .inl fk))]) [0, 1, 2, 3, 4, 5] [6] hP hD hS hA rfl rfl (by decide) (by decide) (by decide) (fun hPc hDc => va_runV (As := []) (rest := []) ⟨hx, hb, hml, hown, hts⟩ (c_X11_ring l D cI cZ cB H.size mx ms mk ma mo mg mm mt mn me mq mwo md mf mr ml mw mgl mhd mre mag mkt mho mpc msd mki mdn mun mtk msv P_ fa fo fr fk ft gs_ mv fe fq (by first | assumption | omega | rfl | decide) (by first | assumption | omega | rfl | decide) (by first | assumption | omega | rfl | decide) (by first | assumption | omega | rfl | decide)) (cwV 0 hts gX11_needed_X11_ring rfl rfl rfl (by decide +kernel) ⟨Nat.le_of_ble_eq_true rfl, Nat.le_of_ble_eq_true rfl⟩) (kt_preV hN hK hPc hDc 0 (ci := 11) (q := (RX11, TX11, 29)) rfl rfl) rfl rfl hl.1 rfl (lv_room (Nat.le_of_ble_eq_true rfl)) dX11_needed_1 ⟨Nat.le_of_ble_eq_true rfl, Nat.le_of_ble_eq_true rfl⟩) (fun r_1 u_ H locs hw_1 hP hD hS => ?_)
  obtain ⟨fe2_1, fq2_1⟩ := u_
  have hP : va_P D vwCl [(mx, .inr (11, [.int ml, .int mw, .ref ms, .int mgl, .int mhd, .int mre, .int mag, .int mkt, .int mho, .int mpc, .int msd, .int mki, .ref mk, .ref ma, .ref mo, .ref mg, .ref mm, .ref mt, .int mdn, .int mun, .ref mn, .int mtk, .ref me, .ref mq, .int msv, .ref mwo, .ref md, .ref mf, .ref mr])), (ma, .inl (cI, 40, .inl fa)), (mo, .inl (cI, 81, .inl fo)), (mg, .inl (cI, 81, .inl fr)), (me, .inl (cZ, 81, .inl fe2_1)), (mq, .inl (cI, 81, .inl fq2_1)), (mk, .inl (cI, 40, .inl fk))] H := hP.sub [1, 2, 3, 4, 5, 6, 0] rfl
  have hD : va_D A [(mx, .inr (11, [.int ml, .int mw, .ref ms, .int mgl, .int mhd, .int mre, .int mag, .int mkt, .int mho, .int mpc, .int msd, .int mki, .ref mk, .ref ma, .ref mo, .ref mg, .ref mm, .ref mt, .int mdn, .int mun, .ref mn, .int mtk, .ref me, .ref mq, .int msv, .ref mwo, .ref md, .ref mf, .ref mr])), (ma, .inl (cI, 40, .inl fa)), (mo, .inl (cI, 81, .inl fo)), (mg, .inl (cI, 81, .inl fr)), (me, .inl (cZ, 81, .inl fe2_1)), (mq, .inl (cI, 81, .inl fq2_1)), (mk, .inl (cI, 40, .inl fk))] := hD.sub [1, 2, 3, 4, 5, 6, 0] (by decide) rfl
  try dsimp only at hw_1
  have hrg := hw_1
  refine lv_if_eq (tgt := 52) hx hb dX11_needed_4 (by decide) (fun c_4 => ?_) (fun c_4 => ?_)
  · have d_4 := c_4
    simp only [kt_lt, kt_le, kt_eq, kt_c0, kt_c1, kt_c2, kt_c3, kt_c4, kt_c8, kt_c9, kt_cm1, kt_c81, kt_c40, kt_c7, kt_c5, kt_c6, kt_c512, kt_c10, kt_c10000] at d_4
    refine lv_iconst (v := 0) hx hb dX11_needed_52 (by decide) ?_
    exact kt_rz (fe2_1, fq2_1) hx hb hr hlk hS dX11_needed_53 hP hD (by show 0 ≤ (0 : Int32).toInt ∧ (0 : Int32).toInt ≤ 1; decide) rfl
  · have d_4 := c_4
    simp only [kt_lt, kt_le, kt_eq, kt_c0, kt_c1, kt_c2, kt_c3, kt_c4, kt_c8, kt_c9, kt_cm1, kt_c81, kt_c40, kt_c7, kt_c5, kt_c6, kt_c512, kt_c10, kt_c10000] at d_4
    have hpl := hpi (hrg.2.2 (by omega)).1
    obtain ⟨⟨hpc, hki, hsd, hdn0, hun0⟩, ⟨hfa, hco, hcc⟩, hinj, hrows, hcut, hlgl⟩ := hpl
    refine lv_iload_n hx hb dX11_needed_7 rfl (lv_at hl 1 rfl) ?_
    refine lv_iconst (v := 0) hx hb dX11_needed_8 (by decide) ?_
    refine lv_aload_n hx hb dX11_needed_9 rfl (lv_at hl 0 rfl) ?_
    refine va_get (D := D) (ci := 11) (C := RX11) (T := TX11) (N := 29) hx hb hts iw_X11_needed_X11 hown hK hP 0 rfl rfl 9 (by decide) (hts (.fieldLink RX11 103 "KingTableModel" "pieces" "I") (kt_wp_X11_needed__X11_needed_r1 kt_wm0)) (fun _ h9 => h9) rfl dX11_needed_10 ?_
    refine lv_iconst (v := 1) hx hb dX11_needed_13 (by decide) ?_
    refine lv_isub hx hb dX11_needed_14 ?_
    refine lv_topi (fun t_14 et_14 => ?_)
    first | have hk_14 := kt_subx et_14 (by first | omega | (simp only [kt_c0, kt_c1, kt_c2, kt_c3, kt_c4, kt_c8, kt_c9, kt_cm1, kt_c81, kt_c40, kt_c7, kt_c5, kt_c6, kt_c512, kt_c10, kt_c10000]; omega)) (by first | omega | (simp only [kt_c0, kt_c1, kt_c2, kt_c3, kt_c4, kt_c8, kt_c9, kt_cm1, kt_c81, kt_c40, kt_c7, kt_c5, kt_c6, kt_c512, kt_c10, kt_c10000]; omega)) | obtain ⟨k_14, hk_14, hm_14, hM_14⟩ := kt_subk et_14
    try simp only [kt_c0, kt_c1, kt_c2, kt_c3, kt_c4, kt_c8, kt_c9, kt_cm1, kt_c81, kt_c40, kt_c7, kt_c5, kt_c6, kt_c512, kt_c10, kt_c10000] at hk_14
    refine kt_pi (wc := []) [] hP hD hS hA rfl (by decide) (fun hPc hDc => va_runS (As := [.int p1, .int 0, .int t_14]) (rest := []) ⟨hx, hb, hml, hown, hts⟩ (c_X11_isIn l D cI cZ cB H.size p1 0 t_14 ) (va_cwS 3 hts gX11_needed_X11_isIn rfl rfl rfl (by decide +kernel) ⟨Nat.le_of_ble_eq_true rfl, Nat.le_of_ble_eq_true rfl⟩) (kt_preS hN hK hPc hDc) rfl rfl hl.1 rfl (lv_room (Nat.le_of_ble_eq_true rfl)) dX11_needed_15 ⟨Nat.le_of_ble_eq_true rfl, Nat.le_of_ble_eq_true rfl⟩) (fun r_15 _ H locs hw_15 hP hS => ?_)
    refine lv_if_eq (tgt := 52) hx hb dX11_needed_18 (by decide) (fun c_18 => ?_) (fun c_18 => ?_)
    · have d_18 := c_18
      simp only [kt_lt, kt_le, kt_eq, kt_c0, kt_c1, kt_c2, kt_c3, kt_c4, kt_c8, kt_c9, kt_cm1, kt_c81, kt_c40, kt_c7, kt_c5, kt_c6, kt_c512, kt_c10, kt_c10000] at d_18
      refine lv_iconst (v := 0) hx hb dX11_needed_52 (by decide) ?_
      exact kt_rz (fe2_1, fq2_1) hx hb hr hlk hS dX11_needed_53 hP hD (by show 0 ≤ (0 : Int32).toInt ∧ (0 : Int32).toInt ≤ 1; decide) rfl
    · have d_18 := c_18
      simp only [kt_lt, kt_le, kt_eq, kt_c0, kt_c1, kt_c2, kt_c3, kt_c4, kt_c8, kt_c9, kt_cm1, kt_c81, kt_c40, kt_c7, kt_c5, kt_c6, kt_c512, kt_c10, kt_c10000] at d_18
      have hq1 := hw_15.t c_18
      rw [kt_c0] at hq1
      refine lv_aload_n hx hb dX11_needed_21 rfl (lv_at hl 0 rfl) ?_
      refine lv_iload_n hx hb dX11_needed_22 rfl (lv_at hl 1 rfl) ?_
      refine kt_pi (wc := [(mx, .inr (11, [.int ml, .int mw, .ref ms, .int mgl, .int mhd, .int mre, .int mag, .int mkt, .int mho, .int mpc, .int msd, .int mki, .ref mk, .ref ma, .ref mo, .ref mg, .ref mm, .ref mt, .int mdn, .int mun, .ref mn, .int mtk, .ref me, .ref mq, .int msv, .ref mwo, .ref md, .ref mf, .ref mr])), (mk, .inl (cI, 40, .inl fk))]) [0, 6] hP hD hS hA rfl (by decide) (fun hPc hDc => va_runV (As := [.int p1]) (rest := []) ⟨hx, hb, hml, hown, hts⟩ (c_X11_sideOf l D cI cZ cB H.size mx ms mk ma mo mg mm mt mn me mq mwo md mf mr ml mw mgl mhd mre mag mkt mho mpc msd mki mdn mun mtk msv fk p1 (by first | assumption | omega | rfl | decide)) (cwV 1 hts gX11_needed_X11_sideOf rfl rfl rfl (by decide +kernel) ⟨Nat.le_of_ble_eq_true rfl, Nat.le_of_ble_eq_true rfl⟩) (kt_preV hN hK hPc hDc 0 (ci := 11) (q := (RX11, TX11, 29)) rfl rfl) rfl rfl hl.1 rfl (lv_room (Nat.le_of_ble_eq_true rfl)) dX11_needed_23 ⟨Nat.le_of_ble_eq_true rfl, Nat.le_of_ble_eq_true rfl⟩) (fun r_23 _ H locs hw_23 hP hS => ?_)
      refine lv_iconst (v := 1) hx hb dX11_needed_26 (by decide) ?_
      refine lv_icmp_ne (tgt := 52) hx hb dX11_needed_27 (by decide) (fun c_27 => ?_) (fun c_27 => ?_)
      · have d_27 := c_27
        simp only [kt_lt, kt_le, kt_eq, kt_c0, kt_c1, kt_c2, kt_c3, kt_c4, kt_c8, kt_c9, kt_cm1, kt_c81, kt_c40, kt_c7, kt_c5, kt_c6, kt_c512, kt_c10, kt_c10000] at d_27
        refine lv_iconst (v := 0) hx hb dX11_needed_52 (by decide) ?_
        exact kt_rz (fe2_1, fq2_1) hx hb hr hlk hS dX11_needed_53 hP hD (by show 0 ≤ (0 : Int32).toInt ∧ (0 : Int32).toInt ≤ 1; decide) rfl
      · have d_27 := c_27
        simp only [kt_lt, kt_le, kt_eq, kt_c0, kt_c1, kt_c2, kt_c3, kt_c4, kt_c8, kt_c9, kt_cm1, kt_c81, kt_c40, kt_c7, kt_c5, kt_c6, kt_c512, kt_c10, kt_c10000] at d_27
        refine lv_aload_n hx hb dX11_needed_30 rfl (lv_at hl 0 rfl) ?_
        refine va_get (D := D) (ci := 11) (C := RX11) (T := TX11) (N := 29) hx hb hts iw_X11_needed_X11 hown hK hP 0 rfl rfl 13 (by decide) (hts (.fieldLink RX11 30 "KingTableModel" "at" "[I") (kt_wp_X11_needed__X11_needed_r1 kt_wm1)) (fun _ h9 => h9) rfl dX11_needed_31 ?_
        refine lv_iload_n hx hb dX11_needed_34 rfl (lv_at hl 1 rfl) ?_
        have hi_1 : vp_in p1 40 := by exact kt_in (by omega) (by omega)
        refine va_iald hx hb hK hP 1 0 rfl rfl hi_1 dX11_needed_35 ?_
        refine lv_topi (fun a_35 ea_35 => ?_)
        refine lv_iconst (v := (-1)) hx hb dX11_needed_36 (by decide) ?_
        refine lv_icmp_eq (tgt := 52) hx hb dX11_needed_37 (by decide) (fun c_37 => ?_) (fun c_37 => ?_)
        · have d_37 := c_37
          simp only [kt_lt, kt_le, kt_eq, kt_c0, kt_c1, kt_c2, kt_c3, kt_c4, kt_c8, kt_c9, kt_cm1, kt_c81, kt_c40, kt_c7, kt_c5, kt_c6, kt_c512, kt_c10, kt_c10000] at d_37
          refine lv_iconst (v := 0) hx hb dX11_needed_52 (by decide) ?_
          exact kt_rz (fe2_1, fq2_1) hx hb hr hlk hS dX11_needed_53 hP hD (by show 0 ≤ (0 : Int32).toInt ∧ (0 : Int32).toInt ≤ 1; decide) rfl
        · have d_37 := c_37
          simp only [kt_lt, kt_le, kt_eq, kt_c0, kt_c1, kt_c2, kt_c3, kt_c4, kt_c8, kt_c9, kt_cm1, kt_c81, kt_c40, kt_c7, kt_c5, kt_c6, kt_c512, kt_c10, kt_c10000] at d_37
          refine lv_aload_n hx hb dX11_needed_40 rfl (lv_at hl 0 rfl) ?_
          refine lv_iload_n hx hb dX11_needed_41 rfl (lv_at hl 1 rfl) ?_
          refine kt_bi (wc := [(mx, .inr (11, [.int ml, .int mw, .ref ms, .int mgl, .int mhd, .int mre, .int mag, .int mkt, .int mho, .int mpc, .int msd, .int mki, .ref mk, .ref ma, .ref mo, .ref mg, .ref mm, .ref mt, .int mdn, .int mun, .ref mn, .int mtk, .ref me, .ref mq, .int msv, .ref mwo, .ref md, .ref mf, .ref mr])), (ma, .inl (cI, 40, .inl fa)), (mo, .inl (cI, 81, .inl fo)), (mg, .inl (cI, 81, .inl fr)), (me, .inl (cZ, 81, .inl fe2_1)), (mq, .inl (cI, 81, .inl fq2_1))]) (wr := [(mk, .inl (cI, 40, .inl fk))]) [0, 1, 2, 3, 4, 5] [6] hP hD hS hA rfl rfl (by decide) (by decide) (by decide) (fun hPc hDc => va_runV (As := [.int p1]) (rest := []) ⟨hx, hb, hml, hown, hts⟩ (c_X11_comesOut l D cI cZ cB H.size mx ms mk ma mo mg mm mt mn me mq mwo md mf mr ml mw mgl mhd mre mag mkt mho mpc msd mki mdn mun mtk msv P_ fa fo fr fe2_1 fq2_1 p1 hml_ hmw hpc hfa hki (hrg.2.2 (by omega)).2) (cwV 1 hts gX11_needed_X11_comesOut rfl rfl rfl (by decide +kernel) ⟨Nat.le_of_ble_eq_true rfl, Nat.le_of_ble_eq_true rfl⟩) (kt_preV hN hK hPc hDc 0 (ci := 11) (q := (RX11, TX11, 29)) rfl rfl) rfl rfl hl.1 rfl (lv_room (Nat.le_of_ble_eq_true rfl)) dX11_needed_42 ⟨Nat.le_of_ble_eq_true rfl, Nat.le_of_ble_eq_true rfl⟩) (fun r_42 u_ H locs hw_42 hP hD hS => ?_)
          obtain ⟨fe2_42, fq2_42⟩ := u_
          have hP : va_P D vwCl [(mx, .inr (11, [.int ml, .int mw, .ref ms, .int mgl, .int mhd, .int mre, .int mag, .int mkt, .int mho, .int mpc, .int msd, .int mki, .ref mk, .ref ma, .ref mo, .ref mg, .ref mm, .ref mt, .int mdn, .int mun, .ref mn, .int mtk, .ref me, .ref mq, .int msv, .ref mwo, .ref md, .ref mf, .ref mr])), (ma, .inl (cI, 40, .inl fa)), (mo, .inl (cI, 81, .inl fo)), (mg, .inl (cI, 81, .inl fr)), (me, .inl (cZ, 81, .inl fe2_42)), (mq, .inl (cI, 81, .inl fq2_42)), (mk, .inl (cI, 40, .inl fk))] H := hP.sub [1, 2, 3, 4, 5, 6, 0] rfl
          have hD : va_D A [(mx, .inr (11, [.int ml, .int mw, .ref ms, .int mgl, .int mhd, .int mre, .int mag, .int mkt, .int mho, .int mpc, .int msd, .int mki, .ref mk, .ref ma, .ref mo, .ref mg, .ref mm, .ref mt, .int mdn, .int mun, .ref mn, .int mtk, .ref me, .ref mq, .int msv, .ref mwo, .ref md, .ref mf, .ref mr])), (ma, .inl (cI, 40, .inl fa)), (mo, .inl (cI, 81, .inl fo)), (mg, .inl (cI, 81, .inl fr)), (me, .inl (cZ, 81, .inl fe2_42)), (mq, .inl (cI, 81, .inl fq2_42)), (mk, .inl (cI, 40, .inl fk))] := hD.sub [1, 2, 3, 4, 5, 6, 0] (by decide) rfl
          try dsimp only at hw_42
          refine lv_if_eq (tgt := 52) hx hb dX11_needed_45 (by decide) (fun c_45 => ?_) (fun c_45 => ?_)
          · have d_45 := c_45
            simp only [kt_lt, kt_le, kt_eq, kt_c0, kt_c1, kt_c2, kt_c3, kt_c4, kt_c8, kt_c9, kt_cm1, kt_c81, kt_c40, kt_c7, kt_c5, kt_c6, kt_c512, kt_c10, kt_c10000] at d_45
            refine lv_iconst (v := 0) hx hb dX11_needed_52 (by decide) ?_
            exact kt_rz (fe2_42, fq2_42) hx hb hr hlk hS dX11_needed_53 hP hD (by show 0 ≤ (0 : Int32).toInt ∧ (0 : Int32).toInt ≤ 1; decide) rfl
          · have d_45 := c_45
            simp only [kt_lt, kt_le, kt_eq, kt_c0, kt_c1, kt_c2, kt_c3, kt_c4, kt_c8, kt_c9, kt_cm1, kt_c81, kt_c40, kt_c7, kt_c5, kt_c6, kt_c512, kt_c10, kt_c10000] at d_45
            refine lv_iconst (v := 1) hx hb dX11_needed_48 (by decide) ?_
            refine lv_goto (tgt := 53) hx hb dX11_needed_49 (by decide) ?_
            exact kt_rz (fe2_42, fq2_42) hx hb hr hlk hS dX11_needed_53 hP hD (by show 0 ≤ (1 : Int32).toInt ∧ (1 : Int32).toInt ≤ 1; decide) rfl
