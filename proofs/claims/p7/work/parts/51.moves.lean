set_option maxHeartbeats 4000000 in
set_option maxRecDepth 100000 in
theorem c_X11_writeE (l : Launch) (D : va_G) (cI cZ cB : ClassId) (sz : Nat) (mx : Nat) (ms : Nat) (mk : Nat) (ma : Nat) (mo : Nat) (mg : Nat) (mm : Nat) (mt : Nat) (mn : Nat) (me : Nat) (mq : Nat) (mwo : Nat) (md : Nat) (mf : Nat) (mr : Nat) (ml : Int32) (mw : Int32) (mgl : Int32) (mhd : Int32) (mre : Int32) (mag : Int32) (mkt : Int32) (mho : Int32) (mpc : Int32) (msd : Int32) (mki : Int32) (mdn : Int32) (mun : Int32) (mtk : Int32) (msv : Int32) (P_ : Nat) (fa : Nat → Int32) (gs_ : Nat → Int32) (p1 : Int32) (hml_ : 2 ≤ ml.toInt ∧ ml.toInt ≤ 9) (hmw : 2 ≤ mw.toInt ∧ mw.toInt ≤ 9) (hpc : (P_ : Int) = mpc.toInt ∧ P_ ≤ 40) (hfa : kt_r fa P_ (-1) (ml.toInt * mw.toInt - 1)) (hp1 : 0 ≤ p1.toInt ∧ p1.toInt ≤ 4000) (hsd : 0 ≤ msd.toInt ∧ msd.toInt ≤ 1) : kt_Mv l yX11_write wsX11_write { frames := 1, cells := 0, slots := 0, locals := 21 } D (kt_ty cI cZ cB) [.ref mx, .int p1] sz [(mx, .inr (11, [.int ml, .int mw, .ref ms, .int mgl, .int mhd, .int mre, .int mag, .int mkt, .int mho, .int mpc, .int msd, .int mki, .ref mk, .ref ma, .ref mo, .ref mg, .ref mm, .ref mt, .int mdn, .int mun, .ref mn, .int mtk, .ref me, .ref mq, .int msv, .ref mwo, .ref md, .ref mf, .ref mr])), (ma, .inl (cI, 40, .inl fa)), (mt, .inl (cB, 172241, .inl gs_))] (fun (u : (Nat → Int32)) => (∀ j, (j < 41 * p1.toInt.toNat ∨ 41 * p1.toInt.toNat + 41 ≤ j) → u j = gs_ j) ∧ kt_row u p1.toInt.toNat P_ (ml.toInt * mw.toInt) ∧ (∀ p, p < 40 → u (41 * p1.toInt.toNat + p) = kt_cut P_ fa p) ∧ u (41 * p1.toInt.toNat + 40) = msd) (fun (u : (Nat → Int32)) => [(mx, .inr (11, [.int ml, .int mw, .ref ms, .int mgl, .int mhd, .int mre, .int mag, .int mkt, .int mho, .int mpc, .int msd, .int mki, .ref mk, .ref ma, .ref mo, .ref mg, .ref mm, .ref mt, .int mdn, .int mun, .ref mn, .int mtk, .ref me, .ref mq, .int msv, .ref mwo, .ref md, .ref mf, .ref mr])), (ma, .inl (cI, 40, .inl fa)), (mt, .inl (cB, 172241, .inl u))]) 0 0 := by
  refine kt_Mv.of (cc := cX11_write) (maxL := 3) (ret := none) (by decide) rfl (Nat.le_of_ble_eq_true rfl) ?_
  intro p e s m below meth c A ls H hAt hP hD hS hl
  obtain ⟨hx, hb, hr, hml, hown, hts, hN, hK, hlk, hnm, hA⟩ := hAt
  have hl : lv_has ls 3 [(0, .ref mx), (1, .int p1)] := hl
  have hown : s.vm.findClass RX11 = some m.cls := hown
  have hsb := kt_mulb hml_ hmw
  refine lv_iconst (v := 0) hx hb dX11_write_0 (by decide) ?_
  refine lv_istore_n (lv' := [(2, .int 0), (0, .ref mx), (1, .int p1)]) hx hb dX11_write_1 rfl hl (by decide) rfl (fun ls hl => ?_)
  refine kt_loop (σ := Nat × (Nat → Int32)) 2 3 (fun u => [(mx, .inr (11, [.int ml, .int mw, .ref ms, .int mgl, .int mhd, .int mre, .int mag, .int mkt, .int mho, .int mpc, .int msd, .int mki, .ref mk, .ref ma, .ref mo, .ref mg, .ref mm, .ref mt, .int mdn, .int mun, .ref mn, .int mtk, .ref me, .ref mq, .int msv, .ref mwo, .ref md, .ref mf, .ref mr])), (ma, .inl (cI, 40, .inl fa)), (mt, .inl (cB, 172241, .inl u.2))]) (fun u => [(2, .int (nI u.1)), (0, .ref mx), (1, .int p1)]) (fun n u => (u.1 ≤ 40 ∧ 40 < u.1 + n) ∧ (∀ j, (j < 41 * p1.toInt.toNat ∨ 41 * p1.toInt.toNat + u.1 ≤ j) → u.2 j = gs_ j) ∧ ∀ p, p < u.1 → u.2 (41 * p1.toInt.toNat + p) = kt_cut P_ fa p) (fun u h => by omega) (fun n_2 ih_2 u hI H locs hP hD hS ls hl => ?_) (41) (0, gs_) (by show (0 ≤ 40 ∧ 40 < 0 + 41) ∧ (∀ j, (j < 41 * p1.toInt.toNat ∨ 41 * p1.toInt.toNat + 0 ≤ j) → gs_ j = gs_ j) ∧ ∀ p, p < 0 → gs_ (41 * p1.toInt.toNat + p) = kt_cut P_ fa p; exact ⟨by decide, fun _ _ => rfl, fun p h => absurd h (Nat.not_lt_zero p)⟩) hP hD hS (lv_sub hl [0, 1, 2] rfl)
  obtain ⟨k, h⟩ := u
  have hP : va_P D vwCl [(mx, .inr (11, [.int ml, .int mw, .ref ms, .int mgl, .int mhd, .int mre, .int mag, .int mkt, .int mho, .int mpc, .int msd, .int mki, .ref mk, .ref ma, .ref mo, .ref mg, .ref mm, .ref mt, .int mdn, .int mun, .ref mn, .int mtk, .ref me, .ref mq, .int msv, .ref mwo, .ref md, .ref mf, .ref mr])), (ma, .inl (cI, 40, .inl fa)), (mt, .inl (cB, 172241, .inl h))] H := hP
  have hD : va_D A [(mx, .inr (11, [.int ml, .int mw, .ref ms, .int mgl, .int mhd, .int mre, .int mag, .int mkt, .int mho, .int mpc, .int msd, .int mki, .ref mk, .ref ma, .ref mo, .ref mg, .ref mm, .ref mt, .int mdn, .int mun, .ref mn, .int mtk, .ref me, .ref mq, .int msv, .ref mwo, .ref md, .ref mf, .ref mr])), (ma, .inl (cI, 40, .inl fa)), (mt, .inl (cB, 172241, .inl h))] := hD
  have hl : lv_has ls 3 [(2, .int (nI k)), (0, .ref mx), (1, .int p1)] := hl
  have hI : (k ≤ 40 ∧ 40 < k + (n_2 + 1)) ∧ (∀ j, (j < 41 * p1.toInt.toNat ∨ 41 * p1.toInt.toNat + k ≤ j) → h j = gs_ j) ∧ ∀ p, p < k → h (41 * p1.toInt.toNat + p) = kt_cut P_ fa p := hI
  obtain ⟨hkb, hgo, hgr⟩ := hI
  have hk0 := kt_nI (n := k) (by omega)
  refine lv_iload_n hx hb dX11_write_2 rfl (lv_at hl 0 rfl) ?_
  refine lv_bipush (v := 40) hx hb dX11_write_3 (by decide) ?_
  refine lv_icmp_ge (tgt := 45) hx hb dX11_write_5 (by decide) (fun c_5 => ?_) (fun c_5 => ?_)
  · have d_5 := c_5
    simp only [kt_lt, kt_le, kt_eq, kt_c0, kt_c1, kt_c2, kt_c3, kt_c4, kt_c8, kt_c9, kt_cm1, kt_c81, kt_c40, kt_c7, kt_c5, kt_c6, kt_c512, kt_c10, kt_c10000] at d_5
    refine lv_aload_n hx hb dX11_write_45 rfl (lv_at hl 1 rfl) ?_
    refine va_get (D := D) (ci := 11) (C := RX11) (T := TX11) (N := 29) hx hb hts iw_X11_write_X11 hown hK hP 0 rfl rfl 17 (by decide) (hts (.fieldLink RX11 43 "KingTableModel" "stood" "[B") (List.mem_cons_of_mem _ (List.mem_append_left _ (List.Mem.head _)))) (fun _ h9 => h9) rfl dX11_write_46 ?_
    refine lv_aload_n hx hb dX11_write_49 rfl (lv_at hl 1 rfl) ?_
    refine lv_iload_n hx hb dX11_write_50 rfl (lv_at hl 2 rfl) ?_
    refine kt_pi (wc := [(mx, .inr (11, [.int ml, .int mw, .ref ms, .int mgl, .int mhd, .int mre, .int mag, .int mkt, .int mho, .int mpc, .int msd, .int mki, .ref mk, .ref ma, .ref mo, .ref mg, .ref mm, .ref mt, .int mdn, .int mun, .ref mn, .int mtk, .ref me, .ref mq, .int msv, .ref mwo, .ref md, .ref mf, .ref mr]))]) [0] hP hD hS hA rfl (by decide) (fun hPc hDc => va_runV (As := [.int p1]) (rest := [.ref mt]) ⟨hx, hb, hml, hown, hts⟩ (c_X11_row l D cI cZ cB H.size mx ms mk ma mo mg mm mt mn me mq mwo md mf mr ml mw mgl mhd mre mag mkt mho mpc msd mki mdn mun mtk msv p1 (by first | assumption | omega | rfl | decide)) (cwV 1 hts gX11_write_X11_row rfl rfl rfl (by decide +kernel) ⟨Nat.le_of_ble_eq_true rfl, Nat.le_of_ble_eq_true rfl⟩) (kt_preV hN hK hPc hDc 0 (ci := 11) (q := (RX11, TX11, 29)) rfl rfl) rfl rfl hl.1 rfl (lv_room (Nat.le_of_ble_eq_true rfl)) dX11_write_51 ⟨Nat.le_of_ble_eq_true rfl, Nat.le_of_ble_eq_true rfl⟩) (fun r_51 _ H locs hw_51 hP hS => ?_)
    refine lv_bipush (v := 40) hx hb dX11_write_54 (by decide) ?_
    refine lv_iadd hx hb dX11_write_56 ?_
    refine lv_topi (fun t_56 et_56 => ?_)
    first | have hk_56 := kt_addx et_56 (by first | omega | (simp only [kt_c0, kt_c1, kt_c2, kt_c3, kt_c4, kt_c8, kt_c9, kt_cm1, kt_c81, kt_c40, kt_c7, kt_c5, kt_c6, kt_c512, kt_c10, kt_c10000]; omega)) (by first | omega | (simp only [kt_c0, kt_c1, kt_c2, kt_c3, kt_c4, kt_c8, kt_c9, kt_cm1, kt_c81, kt_c40, kt_c7, kt_c5, kt_c6, kt_c512, kt_c10, kt_c10000]; omega)) | obtain ⟨k_56, hk_56, hm_56, hM_56⟩ := kt_addk et_56
    try simp only [kt_c0, kt_c1, kt_c2, kt_c3, kt_c4, kt_c8, kt_c9, kt_cm1, kt_c81, kt_c40, kt_c7, kt_c5, kt_c6, kt_c512, kt_c10, kt_c10000] at hk_56
    refine lv_aload_n hx hb dX11_write_57 rfl (lv_at hl 1 rfl) ?_
    refine va_get (D := D) (ci := 11) (C := RX11) (T := TX11) (N := 29) hx hb hts iw_X11_write_X11 hown hK hP 0 rfl rfl 10 (by decide) (hts (.fieldLink RX11 126 "KingTableModel" "side" "I") (List.mem_cons_of_mem _ (List.mem_append_left _ (List.mem_cons_of_mem _ (List.mem_cons_of_mem _ (List.mem_cons_of_mem _ (List.Mem.head _))))))) (fun _ h9 => h9) rfl dX11_write_58 ?_
    refine lv_i2b hx hb dX11_write_61 rfl ?_
    have hsb8 := kt_b8n (v := msd) (by omega) (by omega)
    have hi_1 : vp_in t_56 172241 := by exact kt_in (by omega) (by omega)
    refine va_bast hx hb hK hP hD hS 2 2 rfl rfl hi_1 dX11_write_62 (fun H locs hP hD hS => ?_)
    have hP : va_P D vwCl [(mx, .inr (11, [.int ml, .int mw, .ref ms, .int mgl, .int mhd, .int mre, .int mag, .int mkt, .int mho, .int mpc, .int msd, .int mki, .ref mk, .ref ma, .ref mo, .ref mg, .ref mm, .ref mt, .int mdn, .int mun, .ref mn, .int mtk, .ref me, .ref mq, .int msv, .ref mwo, .ref md, .ref mf, .ref mr])), (ma, .inl (cI, 40, .inl fa)), (mt, .inl (cB, 172241, .inl (upd h t_56.toNatClampNeg (vp_nar .byte msd.toInt8.toInt32))))] H := hP
    have hD : va_D A [(mx, .inr (11, [.int ml, .int mw, .ref ms, .int mgl, .int mhd, .int mre, .int mag, .int mkt, .int mho, .int mpc, .int msd, .int mki, .ref mk, .ref ma, .ref mo, .ref mg, .ref mm, .ref mt, .int mdn, .int mun, .ref mn, .int mtk, .ref me, .ref mq, .int msv, .ref mwo, .ref md, .ref mf, .ref mr])), (ma, .inl (cI, 40, .inl fa)), (mt, .inl (cB, 172241, .inl (upd h t_56.toNatClampNeg (vp_nar .byte msd.toInt8.toInt32))))] := hD
    exact kt_rv (upd h t_56.toNatClampNeg (vp_nar .byte msd.toInt8.toInt32)) hx hb hr hlk hS dX11_write_63 hP hD (by show (∀ j, (j < 41 * p1.toInt.toNat ∨ 41 * p1.toInt.toNat + 41 ≤ j) → (upd h t_56.toNatClampNeg (vp_nar .byte msd.toInt8.toInt32)) j = gs_ j) ∧ kt_row (upd h t_56.toNatClampNeg (vp_nar .byte msd.toInt8.toInt32)) p1.toInt.toNat P_ (ml.toInt * mw.toInt) ∧ (∀ p, p < 40 → (upd h t_56.toNatClampNeg (vp_nar .byte msd.toInt8.toInt32)) (41 * p1.toInt.toNat + p) = kt_cut P_ fa p) ∧ (upd h t_56.toNatClampNeg (vp_nar .byte msd.toInt8.toInt32)) (41 * p1.toInt.toNat + 40) = msd; rw [hsb8, kt_clamp (n := 41 * p1.toInt.toNat + 40) (by omega)]; refine ⟨fun j hj => by rw [pk_un (by omega)]; exact hgo j (by omega), ⟨fun p hp => ?_, by rw [pk_us]; exact hsd⟩, fun p hp => by rw [pk_un (by omega)]; exact hgr p (by omega), pk_us⟩; rw [pk_un (by omega), hgr p (by omega), kt_cut_in hp]; have h9 := hfa p hp; omega)
  · have d_5 := c_5
    simp only [kt_lt, kt_le, kt_eq, kt_c0, kt_c1, kt_c2, kt_c3, kt_c4, kt_c8, kt_c9, kt_cm1, kt_c81, kt_c40, kt_c7, kt_c5, kt_c6, kt_c512, kt_c10, kt_c10000] at d_5
    refine lv_aload_n hx hb dX11_write_8 rfl (lv_at hl 1 rfl) ?_
    refine va_get (D := D) (ci := 11) (C := RX11) (T := TX11) (N := 29) hx hb hts iw_X11_write_X11 hown hK hP 0 rfl rfl 17 (by decide) (hts (.fieldLink RX11 43 "KingTableModel" "stood" "[B") (List.mem_cons_of_mem _ (List.mem_append_left _ (List.Mem.head _)))) (fun _ h9 => h9) rfl dX11_write_9 ?_
    refine lv_aload_n hx hb dX11_write_12 rfl (lv_at hl 1 rfl) ?_
    refine lv_iload_n hx hb dX11_write_13 rfl (lv_at hl 2 rfl) ?_
    refine kt_pi (wc := [(mx, .inr (11, [.int ml, .int mw, .ref ms, .int mgl, .int mhd, .int mre, .int mag, .int mkt, .int mho, .int mpc, .int msd, .int mki, .ref mk, .ref ma, .ref mo, .ref mg, .ref mm, .ref mt, .int mdn, .int mun, .ref mn, .int mtk, .ref me, .ref mq, .int msv, .ref mwo, .ref md, .ref mf, .ref mr]))]) [0] hP hD hS hA rfl (by decide) (fun hPc hDc => va_runV (As := [.int p1]) (rest := [.ref mt]) ⟨hx, hb, hml, hown, hts⟩ (c_X11_row l D cI cZ cB H.size mx ms mk ma mo mg mm mt mn me mq mwo md mf mr ml mw mgl mhd mre mag mkt mho mpc msd mki mdn mun mtk msv p1 (by first | assumption | omega | rfl | decide)) (cwV 1 hts gX11_write_X11_row rfl rfl rfl (by decide +kernel) ⟨Nat.le_of_ble_eq_true rfl, Nat.le_of_ble_eq_true rfl⟩) (kt_preV hN hK hPc hDc 0 (ci := 11) (q := (RX11, TX11, 29)) rfl rfl) rfl rfl hl.1 rfl (lv_room (Nat.le_of_ble_eq_true rfl)) dX11_write_14 ⟨Nat.le_of_ble_eq_true rfl, Nat.le_of_ble_eq_true rfl⟩) (fun r_14 _ H locs hw_14 hP hS => ?_)
    refine lv_iload_n hx hb dX11_write_17 rfl (lv_at hl 0 rfl) ?_
    refine lv_iadd hx hb dX11_write_18 ?_
    refine lv_topi (fun t_18 et_18 => ?_)
    first | have hk_18 := kt_addx et_18 (by first | omega | (simp only [kt_c0, kt_c1, kt_c2, kt_c3, kt_c4, kt_c8, kt_c9, kt_cm1, kt_c81, kt_c40, kt_c7, kt_c5, kt_c6, kt_c512, kt_c10, kt_c10000]; omega)) (by first | omega | (simp only [kt_c0, kt_c1, kt_c2, kt_c3, kt_c4, kt_c8, kt_c9, kt_cm1, kt_c81, kt_c40, kt_c7, kt_c5, kt_c6, kt_c512, kt_c10, kt_c10000]; omega)) | obtain ⟨k_18, hk_18, hm_18, hM_18⟩ := kt_addk et_18
    refine lv_iload_n hx hb dX11_write_19 rfl (lv_at hl 0 rfl) ?_
    refine lv_aload_n hx hb dX11_write_20 rfl (lv_at hl 1 rfl) ?_
    refine va_get (D := D) (ci := 11) (C := RX11) (T := TX11) (N := 29) hx hb hts iw_X11_write_X11 hown hK hP 0 rfl rfl 9 (by decide) (hts (.fieldLink RX11 103 "KingTableModel" "pieces" "I") (List.mem_cons_of_mem _ (List.mem_append_left _ (List.mem_cons_of_mem _ (List.Mem.head _))))) (fun _ h9 => h9) rfl dX11_write_21 ?_
    refine kt_join (σ := Int32) 37 3 (fun u => [(mx, .inr (11, [.int ml, .int mw, .ref ms, .int mgl, .int mhd, .int mre, .int mag, .int mkt, .int mho, .int mpc, .int msd, .int mki, .ref mk, .ref ma, .ref mo, .ref mg, .ref mm, .ref mt, .int mdn, .int mun, .ref mn, .int mtk, .ref me, .ref mq, .int msv, .ref mwo, .ref md, .ref mf, .ref mr])), (ma, .inl (cI, 40, .inl fa)), (mt, .inl (cB, 172241, .inl h))]) (fun u => [(2, .int (nI k)), (0, .ref mx), (1, .int p1)]) (fun u => [.int u, .int t_18, .ref mt]) (fun u => (-1 ≤ u.toInt ∧ u.toInt ≤ 80) ∧ u = kt_cut P_ fa k) (D := D) (A := A) (H0 := s.heap) (fun u hI H locs hP hD hS ls hl => ?_) (fun j_37 => ?_)
    · obtain ⟨v, rfl⟩ : ∃ z, z = u := ⟨_, rfl⟩
      have hP : va_P D vwCl [(mx, .inr (11, [.int ml, .int mw, .ref ms, .int mgl, .int mhd, .int mre, .int mag, .int mkt, .int mho, .int mpc, .int msd, .int mki, .ref mk, .ref ma, .ref mo, .ref mg, .ref mm, .ref mt, .int mdn, .int mun, .ref mn, .int mtk, .ref me, .ref mq, .int msv, .ref mwo, .ref md, .ref mf, .ref mr])), (ma, .inl (cI, 40, .inl fa)), (mt, .inl (cB, 172241, .inl h))] H := hP
      have hD : va_D A [(mx, .inr (11, [.int ml, .int mw, .ref ms, .int mgl, .int mhd, .int mre, .int mag, .int mkt, .int mho, .int mpc, .int msd, .int mki, .ref mk, .ref ma, .ref mo, .ref mg, .ref mm, .ref mt, .int mdn, .int mun, .ref mn, .int mtk, .ref me, .ref mq, .int msv, .ref mwo, .ref md, .ref mf, .ref mr])), (ma, .inl (cI, 40, .inl fa)), (mt, .inl (cB, 172241, .inl h))] := hD
      have hl : lv_has ls 3 [(2, .int (nI k)), (0, .ref mx), (1, .int p1)] := hl
      have hI : (-1 ≤ v.toInt ∧ v.toInt ≤ 80) ∧ v = kt_cut P_ fa k := hI
      have hv := hI
      have hvb := kt_b8n (v := v) (by omega) (by omega)
      refine lv_i2b hx hb dX11_write_37 rfl ?_
      have hi_2 : vp_in t_18 172241 := by exact kt_in (by omega) (by omega)
      refine va_bast hx hb hK hP hD hS 2 2 rfl rfl hi_2 dX11_write_38 (fun H locs hP hD hS => ?_)
      have hP : va_P D vwCl [(mx, .inr (11, [.int ml, .int mw, .ref ms, .int mgl, .int mhd, .int mre, .int mag, .int mkt, .int mho, .int mpc, .int msd, .int mki, .ref mk, .ref ma, .ref mo, .ref mg, .ref mm, .ref mt, .int mdn, .int mun, .ref mn, .int mtk, .ref me, .ref mq, .int msv, .ref mwo, .ref md, .ref mf, .ref mr])), (ma, .inl (cI, 40, .inl fa)), (mt, .inl (cB, 172241, .inl (upd h t_18.toNatClampNeg (vp_nar .byte v.toInt8.toInt32))))] H := hP
      have hD : va_D A [(mx, .inr (11, [.int ml, .int mw, .ref ms, .int mgl, .int mhd, .int mre, .int mag, .int mkt, .int mho, .int mpc, .int msd, .int mki, .ref mk, .ref ma, .ref mo, .ref mg, .ref mm, .ref mt, .int mdn, .int mun, .ref mn, .int mtk, .ref me, .ref mq, .int msv, .ref mwo, .ref md, .ref mf, .ref mr])), (ma, .inl (cI, 40, .inl fa)), (mt, .inl (cB, 172241, .inl (upd h t_18.toNatClampNeg (vp_nar .byte v.toInt8.toInt32))))] := hD
      refine lv_iinc (v := nI (k + 1)) (lv' := [(2, .int (nI (k + 1))), (0, .ref mx), (1, .int p1)]) hx hb dX11_write_39 hl (k := 0) rfl (nI_1 _) (by decide) rfl (fun ls hl => ?_)
      refine lv_goto (tgt := 2) hx hb dX11_write_42 (by decide) ?_
      exact ih_2 ((k + 1), (upd h t_18.toNatClampNeg (vp_nar .byte v.toInt8.toInt32))) (by show ((k + 1) ≤ 40 ∧ 40 < (k + 1) + n_2) ∧ (∀ j, (j < 41 * p1.toInt.toNat ∨ 41 * p1.toInt.toNat + (k + 1) ≤ j) → (upd h t_18.toNatClampNeg (vp_nar .byte v.toInt8.toInt32)) j = gs_ j) ∧ ∀ p, p < (k + 1) → (upd h t_18.toNatClampNeg (vp_nar .byte v.toInt8.toInt32)) (41 * p1.toInt.toNat + p) = kt_cut P_ fa p; rw [hvb, kt_clamp (n := 41 * p1.toInt.toNat + k) (by omega)]; refine ⟨by omega, fun j hj => by rw [pk_un (by omega)]; exact hgo j (by omega), fun p hp => ?_⟩; exact if e : p = k then (by rw [e, pk_us]; exact hv.2) else (by rw [pk_un (by omega)]; exact hgr p (by omega))) H _ hP hD hS ls (lv_sub hl [0, 1, 2] rfl)
    refine lv_icmp_ge (tgt := 36) hx hb dX11_write_24 (by decide) (fun c_24 => ?_) (fun c_24 => ?_)
    · have d_24 := c_24
      simp only [kt_lt, kt_le, kt_eq, kt_c0, kt_c1, kt_c2, kt_c3, kt_c4, kt_c8, kt_c9, kt_cm1, kt_c81, kt_c40, kt_c7, kt_c5, kt_c6, kt_c512, kt_c10, kt_c10000] at d_24
      refine lv_iconst (v := (-1)) hx hb dX11_write_36 (by decide) ?_
      exact j_37 (-1 : Int32) (by show (-1 ≤ (-1 : Int32).toInt ∧ (-1 : Int32).toInt ≤ 80) ∧ (-1 : Int32) = kt_cut P_ fa k; first | exact ⟨by omega, by unfold kt_cut; rw [if_pos (by omega), ea_32, nI_clamp (by omega)]⟩ | exact ⟨by decide, by unfold kt_cut; rw [if_neg (by omega)]⟩) H _ hP hD hS ls (lv_sub hl [0, 1, 2] rfl)
    · have d_24 := c_24
      simp only [kt_lt, kt_le, kt_eq, kt_c0, kt_c1, kt_c2, kt_c3, kt_c4, kt_c8, kt_c9, kt_cm1, kt_c81, kt_c40, kt_c7, kt_c5, kt_c6, kt_c512, kt_c10, kt_c10000] at d_24
      refine lv_aload_n hx hb dX11_write_27 rfl (lv_at hl 1 rfl) ?_
      refine va_get (D := D) (ci := 11) (C := RX11) (T := TX11) (N := 29) hx hb hts iw_X11_write_X11 hown hK hP 0 rfl rfl 13 (by decide) (hts (.fieldLink RX11 30 "KingTableModel" "at" "[I") (List.mem_cons_of_mem _ (List.mem_append_left _ (List.mem_cons_of_mem _ (List.mem_cons_of_mem _ (List.Mem.head _)))))) (fun _ h9 => h9) rfl dX11_write_28 ?_
      refine lv_iload_n hx hb dX11_write_31 rfl (lv_at hl 0 rfl) ?_
      have hi_3 : vp_in (nI k) 40 := by exact kt_in (by omega) (by omega)
      refine va_iald hx hb hK hP 1 0 rfl rfl hi_3 dX11_write_32 ?_
      refine lv_topi (fun a_32 ea_32 => ?_)
      have ra_32 := hfa.get (kt_in (x := (nI k)) (n := P_) (by omega) (by omega))
      rw [← ea_32] at ra_32
      refine lv_goto (tgt := 37) hx hb dX11_write_33 (by decide) ?_
      exact j_37 a_32 (by show (-1 ≤ a_32.toInt ∧ a_32.toInt ≤ 80) ∧ a_32 = kt_cut P_ fa k; first | exact ⟨by omega, by unfold kt_cut; rw [if_pos (by omega), ea_32, nI_clamp (by omega)]⟩ | exact ⟨by decide, by unfold kt_cut; rw [if_neg (by omega)]⟩) H _ hP hD hS ls (lv_sub hl [0, 1, 2] rfl)

set_option maxHeartbeats 4000000 in
set_option maxRecDepth 100000 in
theorem c_X11_readE (l : Launch) (D : va_G) (cI cZ cB : ClassId) (sz : Nat) (mx : Nat) (ms : Nat) (mk : Nat) (ma : Nat) (mo : Nat) (mg : Nat) (mm : Nat) (mt : Nat) (mn : Nat) (me : Nat) (mq : Nat) (mwo : Nat) (md : Nat) (mf : Nat) (mr : Nat) (ml : Int32) (mw : Int32) (mgl : Int32) (mhd : Int32) (mre : Int32) (mag : Int32) (mkt : Int32) (mho : Int32) (mpc : Int32) (msd : Int32) (mki : Int32) (mdn : Int32) (mun : Int32) (mtk : Int32) (msv : Int32) (P_ : Nat) (fa : Nat → Int32) (fo : Nat → Int32) (gs_ : Nat → Int32) (p1 : Int32) (hml_ : 2 ≤ ml.toInt ∧ ml.toInt ≤ 9) (hmw : 2 ≤ mw.toInt ∧ mw.toInt ≤ 9) (hpc : (P_ : Int) = mpc.toInt ∧ P_ ≤ 40) (hp1 : 0 ≤ p1.toInt ∧ p1.toInt ≤ 4000) (hrow : kt_row gs_ p1.toInt.toNat P_ (ml.toInt * mw.toInt)) (hrj : kt_inj (fun j => gs_ (41 * p1.toInt.toNat + j)) P_) : kt_Mv l yX11_read wsX11_read { frames := 1, cells := 0, slots := 0, locals := 21 } D (kt_ty cI cZ cB) [.ref mx, .int p1] sz [(mx, .inr (11, [.int ml, .int mw, .ref ms, .int mgl, .int mhd, .int mre, .int mag, .int mkt, .int mho, .int mpc, .int msd, .int mki, .ref mk, .ref ma, .ref mo, .ref mg, .ref mm, .ref mt, .int mdn, .int mun, .ref mn, .int mtk, .ref me, .ref mq, .int msv, .ref mwo, .ref md, .ref mf, .ref mr])), (ma, .inl (cI, 40, .inl fa)), (mo, .inl (cI, 81, .inl fo)), (mt, .inl (cB, 172241, .inl gs_))] (fun (u : (Nat → Int32) × (Nat → Int32) × Int32) => (kt_r u.1 P_ (-1) (ml.toInt * mw.toInt - 1) ∧ kt_con u.2.1 u.1 P_ ∧ kt_coc u.2.1 u.1 P_) ∧ (0 ≤ u.2.2.toInt ∧ u.2.2.toInt ≤ 1) ∧ (∀ p, p < P_ → u.1 p = gs_ (41 * p1.toInt.toNat + p)) ∧ u.2.2 = gs_ (41 * p1.toInt.toNat + 40)) (fun (u : (Nat → Int32) × (Nat → Int32) × Int32) => [(mx, .inr (11, [.int ml, .int mw, .ref ms, .int mgl, .int mhd, .int mre, .int mag, .int mkt, .int mho, .int mpc, .int u.2.2, .int mki, .ref mk, .ref ma, .ref mo, .ref mg, .ref mm, .ref mt, .int mdn, .int mun, .ref mn, .int mtk, .ref me, .ref mq, .int msv, .ref mwo, .ref md, .ref mf, .ref mr])), (ma, .inl (cI, 40, .inl u.1)), (mo, .inl (cI, 81, .inl u.2.1)), (mt, .inl (cB, 172241, .inl gs_))]) 0 0 := by
  refine kt_Mv.of (cc := cX11_read) (maxL := 3) (ret := none) (by decide) rfl (Nat.le_of_ble_eq_true rfl) ?_
  intro p e s m below meth c A ls H hAt hP hD hS hl
  obtain ⟨hx, hb, hr, hml, hown, hts, hN, hK, hlk, hnm, hA⟩ := hAt
  have hl : lv_has ls 3 [(0, .ref mx), (1, .int p1)] := hl
  have hown : s.vm.findClass RX11 = some m.cls := hown
  have hsb := kt_mulb hml_ hmw
  refine lv_iconst (v := 0) hx hb dX11_read_0 (by decide) ?_
  refine lv_istore_n (lv' := [(2, .int 0), (0, .ref mx), (1, .int p1)]) hx hb dX11_read_1 rfl hl (by decide) rfl (fun ls hl => ?_)
  refine kt_loop (σ := Nat × (Nat → Int32)) 2 3 (fun u => [(mx, .inr (11, [.int ml, .int mw, .ref ms, .int mgl, .int mhd, .int mre, .int mag, .int mkt, .int mho, .int mpc, .int msd, .int mki, .ref mk, .ref ma, .ref mo, .ref mg, .ref mm, .ref mt, .int mdn, .int mun, .ref mn, .int mtk, .ref me, .ref mq, .int msv, .ref mwo, .ref md, .ref mf, .ref mr])), (ma, .inl (cI, 40, .inl fa)), (mo, .inl (cI, 81, .inl u.2)), (mt, .inl (cB, 172241, .inl gs_))]) (fun u => [(2, .int (nI u.1)), (0, .ref mx), (1, .int p1)]) (fun n u => (u.1 ≤ 81 ∧ 81 < u.1 + n) ∧ ∀ j, j < u.1 → u.2 j = -1) (fun u h => by omega) (fun n_2 ih_2 u hI H locs hP hD hS ls hl => ?_) (82) (0, fo) (by show (0 ≤ 81 ∧ 81 < 0 + 82) ∧ ∀ j, j < 0 → fo j = -1; exact ⟨by decide, fun j h => absurd h (Nat.not_lt_zero j)⟩) hP hD hS (lv_sub hl [0, 1, 2] rfl)
  obtain ⟨k, h⟩ := u
  have hP : va_P D vwCl [(mx, .inr (11, [.int ml, .int mw, .ref ms, .int mgl, .int mhd, .int mre, .int mag, .int mkt, .int mho, .int mpc, .int msd, .int mki, .ref mk, .ref ma, .ref mo, .ref mg, .ref mm, .ref mt, .int mdn, .int mun, .ref mn, .int mtk, .ref me, .ref mq, .int msv, .ref mwo, .ref md, .ref mf, .ref mr])), (ma, .inl (cI, 40, .inl fa)), (mo, .inl (cI, 81, .inl h)), (mt, .inl (cB, 172241, .inl gs_))] H := hP
  have hD : va_D A [(mx, .inr (11, [.int ml, .int mw, .ref ms, .int mgl, .int mhd, .int mre, .int mag, .int mkt, .int mho, .int mpc, .int msd, .int mki, .ref mk, .ref ma, .ref mo, .ref mg, .ref mm, .ref mt, .int mdn, .int mun, .ref mn, .int mtk, .ref me, .ref mq, .int msv, .ref mwo, .ref md, .ref mf, .ref mr])), (ma, .inl (cI, 40, .inl fa)), (mo, .inl (cI, 81, .inl h)), (mt, .inl (cB, 172241, .inl gs_))] := hD
  have hl : lv_has ls 3 [(2, .int (nI k)), (0, .ref mx), (1, .int p1)] := hl
  have hI : (k ≤ 81 ∧ 81 < k + (n_2 + 1)) ∧ ∀ j, j < k → h j = -1 := hI
  obtain ⟨hkb, hz⟩ := hI
  have hk0 := kt_nI (n := k) (by omega)
  refine lv_iload_n hx hb dX11_read_2 rfl (lv_at hl 0 rfl) ?_
  refine lv_bipush (v := 81) hx hb dX11_read_3 (by decide) ?_
  refine lv_icmp_ge (tgt := 21) hx hb dX11_read_5 (by decide) (fun c_5 => ?_) (fun c_5 => ?_)
  · have d_5 := c_5
    simp only [kt_lt, kt_le, kt_eq, kt_c0, kt_c1, kt_c2, kt_c3, kt_c4, kt_c8, kt_c9, kt_cm1, kt_c81, kt_c40, kt_c7, kt_c5, kt_c6, kt_c512, kt_c10, kt_c10000] at d_5
    refine lv_iconst (v := 0) hx hb dX11_read_21 (by decide) ?_
    refine lv_istore_n (lv' := [(2, .int 0), (0, .ref mx), (1, .int p1)]) hx hb dX11_read_22 rfl hl (by decide) rfl (fun ls hl => ?_)
    refine kt_loop (σ := Nat × (Nat → Int32) × (Nat → Int32)) 23 3 (fun u => [(mx, .inr (11, [.int ml, .int mw, .ref ms, .int mgl, .int mhd, .int mre, .int mag, .int mkt, .int mho, .int mpc, .int msd, .int mki, .ref mk, .ref ma, .ref mo, .ref mg, .ref mm, .ref mt, .int mdn, .int mun, .ref mn, .int mtk, .ref me, .ref mq, .int msv, .ref mwo, .ref md, .ref mf, .ref mr])), (ma, .inl (cI, 40, .inl u.2.1)), (mo, .inl (cI, 81, .inl u.2.2)), (mt, .inl (cB, 172241, .inl gs_))]) (fun u => [(2, .int (nI u.1)), (0, .ref mx), (1, .int p1)]) (fun n u => (u.1 ≤ 40 ∧ 40 < u.1 + n ∧ u.1 ≤ P_) ∧ kt_r u.2.1 u.1 (-1) (ml.toInt * mw.toInt - 1) ∧ kt_con u.2.2 u.2.1 u.1 ∧ kt_coc u.2.2 u.2.1 u.1 ∧ ∀ p, p < u.1 → u.2.1 p = gs_ (41 * p1.toInt.toNat + p)) (fun u h => by omega) (fun n_23 ih_23 u hI H locs hP hD hS ls hl => ?_) (41) (0, fa, h) (by show (0 ≤ 40 ∧ 40 < 0 + 41 ∧ 0 ≤ P_) ∧ kt_r fa 0 (-1) (ml.toInt * mw.toInt - 1) ∧ kt_con h fa 0 ∧ kt_coc h fa 0 ∧ ∀ p, p < 0 → fa p = gs_ (41 * p1.toInt.toNat + p); exact ⟨⟨by decide, by decide, by omega⟩, kt_nil, kt_con.none (fun j hj => hz j (by omega)), fun qq h => absurd h (Nat.not_lt_zero qq), fun p h => absurd h (Nat.not_lt_zero p)⟩) hP hD hS (lv_sub hl [0, 1, 2] rfl)
    obtain ⟨i, g, o⟩ := u
    have hP : va_P D vwCl [(mx, .inr (11, [.int ml, .int mw, .ref ms, .int mgl, .int mhd, .int mre, .int mag, .int mkt, .int mho, .int mpc, .int msd, .int mki, .ref mk, .ref ma, .ref mo, .ref mg, .ref mm, .ref mt, .int mdn, .int mun, .ref mn, .int mtk, .ref me, .ref mq, .int msv, .ref mwo, .ref md, .ref mf, .ref mr])), (ma, .inl (cI, 40, .inl g)), (mo, .inl (cI, 81, .inl o)), (mt, .inl (cB, 172241, .inl gs_))] H := hP
    have hD : va_D A [(mx, .inr (11, [.int ml, .int mw, .ref ms, .int mgl, .int mhd, .int mre, .int mag, .int mkt, .int mho, .int mpc, .int msd, .int mki, .ref mk, .ref ma, .ref mo, .ref mg, .ref mm, .ref mt, .int mdn, .int mun, .ref mn, .int mtk, .ref me, .ref mq, .int msv, .ref mwo, .ref md, .ref mf, .ref mr])), (ma, .inl (cI, 40, .inl g)), (mo, .inl (cI, 81, .inl o)), (mt, .inl (cB, 172241, .inl gs_))] := hD
    have hl : lv_has ls 3 [(2, .int (nI i)), (0, .ref mx), (1, .int p1)] := hl
    have hI : (i ≤ 40 ∧ 40 < i + (n_23 + 1) ∧ i ≤ P_) ∧ kt_r g i (-1) (ml.toInt * mw.toInt - 1) ∧ kt_con o g i ∧ kt_coc o g i ∧ ∀ p, p < i → g p = gs_ (41 * p1.toInt.toNat + p) := hI
    obtain ⟨hib, hga, hco, hcc, hgp⟩ := hI
    have hi0 := kt_nI (n := i) (by omega)
    refine lv_iload_n hx hb dX11_read_23 rfl (lv_at hl 0 rfl) ?_
    refine lv_aload_n hx hb dX11_read_24 rfl (lv_at hl 1 rfl) ?_
    refine va_get (D := D) (ci := 11) (C := RX11) (T := TX11) (N := 29) hx hb hts iw_X11_read_X11 hown hK hP 0 rfl rfl 9 (by decide) (hts (.fieldLink RX11 103 "KingTableModel" "pieces" "I") (List.mem_cons_of_mem _ (List.mem_append_left _ (List.mem_cons_of_mem _ (List.Mem.head _))))) (fun _ h9 => h9) rfl dX11_read_25 ?_
    refine lv_icmp_ge (tgt := 77) hx hb dX11_read_28 (by decide) (fun c_28 => ?_) (fun c_28 => ?_)
    · have d_28 := c_28
      simp only [kt_lt, kt_le, kt_eq, kt_c0, kt_c1, kt_c2, kt_c3, kt_c4, kt_c8, kt_c9, kt_cm1, kt_c81, kt_c40, kt_c7, kt_c5, kt_c6, kt_c512, kt_c10, kt_c10000] at d_28
      have hiP : i = P_ := by omega
      rw [hiP] at hga hco hcc hgp
      refine lv_aload_n hx hb dX11_read_77 rfl (lv_at hl 1 rfl) ?_
      refine lv_aload_n hx hb dX11_read_78 rfl (lv_at hl 1 rfl) ?_
      refine va_get (D := D) (ci := 11) (C := RX11) (T := TX11) (N := 29) hx hb hts iw_X11_read_X11 hown hK hP 0 rfl rfl 17 (by decide) (hts (.fieldLink RX11 43 "KingTableModel" "stood" "[B") (List.mem_cons_of_mem _ (List.mem_append_left _ (List.mem_cons_of_mem _ (List.mem_cons_of_mem _ (List.mem_cons_of_mem _ (List.Mem.head _))))))) (fun _ h9 => h9) rfl dX11_read_79 ?_
      refine lv_aload_n hx hb dX11_read_82 rfl (lv_at hl 1 rfl) ?_
      refine lv_iload_n hx hb dX11_read_83 rfl (lv_at hl 2 rfl) ?_
      refine kt_pi (wc := [(mx, .inr (11, [.int ml, .int mw, .ref ms, .int mgl, .int mhd, .int mre, .int mag, .int mkt, .int mho, .int mpc, .int msd, .int mki, .ref mk, .ref ma, .ref mo, .ref mg, .ref mm, .ref mt, .int mdn, .int mun, .ref mn, .int mtk, .ref me, .ref mq, .int msv, .ref mwo, .ref md, .ref mf, .ref mr]))]) [0] hP hD hS hA rfl (by decide) (fun hPc hDc => va_runV (As := [.int p1]) (rest := [.ref mt, .ref mx]) ⟨hx, hb, hml, hown, hts⟩ (c_X11_row l D cI cZ cB H.size mx ms mk ma mo mg mm mt mn me mq mwo md mf mr ml mw mgl mhd mre mag mkt mho mpc msd mki mdn mun mtk msv p1 (by first | assumption | omega | rfl | decide)) (cwV 1 hts gX11_read_X11_row rfl rfl rfl (by decide +kernel) ⟨Nat.le_of_ble_eq_true rfl, Nat.le_of_ble_eq_true rfl⟩) (kt_preV hN hK hPc hDc 0 (ci := 11) (q := (RX11, TX11, 29)) rfl rfl) rfl rfl hl.1 rfl (lv_room (Nat.le_of_ble_eq_true rfl)) dX11_read_84 ⟨Nat.le_of_ble_eq_true rfl, Nat.le_of_ble_eq_true rfl⟩) (fun r_84 _ H locs hw_84 hP hS => ?_)
      refine lv_bipush (v := 40) hx hb dX11_read_87 (by decide) ?_
      refine lv_iadd hx hb dX11_read_89 ?_
      refine lv_topi (fun t_89 et_89 => ?_)
      first | have hk_89 := kt_addx et_89 (by first | omega | (simp only [kt_c0, kt_c1, kt_c2, kt_c3, kt_c4, kt_c8, kt_c9, kt_cm1, kt_c81, kt_c40, kt_c7, kt_c5, kt_c6, kt_c512, kt_c10, kt_c10000]; omega)) (by first | omega | (simp only [kt_c0, kt_c1, kt_c2, kt_c3, kt_c4, kt_c8, kt_c9, kt_cm1, kt_c81, kt_c40, kt_c7, kt_c5, kt_c6, kt_c512, kt_c10, kt_c10000]; omega)) | obtain ⟨k_89, hk_89, hm_89, hM_89⟩ := kt_addk et_89
      try simp only [kt_c0, kt_c1, kt_c2, kt_c3, kt_c4, kt_c8, kt_c9, kt_cm1, kt_c81, kt_c40, kt_c7, kt_c5, kt_c6, kt_c512, kt_c10, kt_c10000] at hk_89
      have hi_1 : vp_in t_89 172241 := by exact kt_in (by omega) (by omega)
      refine va_bald hx hb hK hP 3 2 rfl rfl hi_1 dX11_read_90 ?_
      refine lv_topi (fun a_90 ea_90 => ?_)
      have hrs := hrow.2
      rw [kt_clamp (n := 41 * p1.toInt.toNat + 40) (by omega)] at ea_90
      rw [← ea_90] at hrs
      refine va_put (D := D) (ci := 11) (v := .int a_90) (ty := .int) (C := RX11) (T := TX11) (N := 29) hx hb hts iw_X11_read_X11 tyX11 tyX11_ok nmX11 hown hK hP hD hS 0 rfl rfl 10 (by decide) (hts (.fieldLink RX11 126 "KingTableModel" "side" "I") (List.mem_cons_of_mem _ (List.mem_append_left _ (List.mem_cons_of_mem _ (List.mem_cons_of_mem _ (List.mem_cons_of_mem _ (List.mem_cons_of_mem _ (List.Mem.head _)))))))) (fun _ h9 => h9) rfl (by decide +kernel) rfl rfl (Nat.le_of_ble_eq_true rfl) dX11_read_91 (fun H locs hP hD hS => ?_)
      have hP : va_P D vwCl [(mx, .inr (11, [.int ml, .int mw, .ref ms, .int mgl, .int mhd, .int mre, .int mag, .int mkt, .int mho, .int mpc, .int a_90, .int mki, .ref mk, .ref ma, .ref mo, .ref mg, .ref mm, .ref mt, .int mdn, .int mun, .ref mn, .int mtk, .ref me, .ref mq, .int msv, .ref mwo, .ref md, .ref mf, .ref mr])), (ma, .inl (cI, 40, .inl g)), (mo, .inl (cI, 81, .inl o)), (mt, .inl (cB, 172241, .inl gs_))] H := hP
      have hD : va_D A [(mx, .inr (11, [.int ml, .int mw, .ref ms, .int mgl, .int mhd, .int mre, .int mag, .int mkt, .int mho, .int mpc, .int a_90, .int mki, .ref mk, .ref ma, .ref mo, .ref mg, .ref mm, .ref mt, .int mdn, .int mun, .ref mn, .int mtk, .ref me, .ref mq, .int msv, .ref mwo, .ref md, .ref mf, .ref mr])), (ma, .inl (cI, 40, .inl g)), (mo, .inl (cI, 81, .inl o)), (mt, .inl (cB, 172241, .inl gs_))] := hD
      exact kt_rv (g, o, a_90) hx hb hr hlk hS dX11_read_94 hP hD (by show (kt_r g P_ (-1) (ml.toInt * mw.toInt - 1) ∧ kt_con o g P_ ∧ kt_coc o g P_) ∧ (0 ≤ a_90.toInt ∧ a_90.toInt ≤ 1) ∧ (∀ p, p < P_ → g p = gs_ (41 * p1.toInt.toNat + p)) ∧ a_90 = gs_ (41 * p1.toInt.toNat + 40); exact ⟨⟨hga, hco, hcc⟩, hrs, hgp, ea_90⟩)
    · have d_28 := c_28
      simp only [kt_lt, kt_le, kt_eq, kt_c0, kt_c1, kt_c2, kt_c3, kt_c4, kt_c8, kt_c9, kt_cm1, kt_c81, kt_c40, kt_c7, kt_c5, kt_c6, kt_c512, kt_c10, kt_c10000] at d_28
      refine lv_aload_n hx hb dX11_read_31 rfl (lv_at hl 1 rfl) ?_
      refine va_get (D := D) (ci := 11) (C := RX11) (T := TX11) (N := 29) hx hb hts iw_X11_read_X11 hown hK hP 0 rfl rfl 13 (by decide) (hts (.fieldLink RX11 30 "KingTableModel" "at" "[I") (List.mem_cons_of_mem _ (List.mem_append_left _ (List.mem_cons_of_mem _ (List.mem_cons_of_mem _ (List.Mem.head _)))))) (fun _ h9 => h9) rfl dX11_read_32 ?_
      refine lv_iload_n hx hb dX11_read_35 rfl (lv_at hl 0 rfl) ?_
      refine lv_aload_n hx hb dX11_read_36 rfl (lv_at hl 1 rfl) ?_
      refine va_get (D := D) (ci := 11) (C := RX11) (T := TX11) (N := 29) hx hb hts iw_X11_read_X11 hown hK hP 0 rfl rfl 17 (by decide) (hts (.fieldLink RX11 43 "KingTableModel" "stood" "[B") (List.mem_cons_of_mem _ (List.mem_append_left _ (List.mem_cons_of_mem _ (List.mem_cons_of_mem _ (List.mem_cons_of_mem _ (List.Mem.head _))))))) (fun _ h9 => h9) rfl dX11_read_37 ?_
      refine lv_aload_n hx hb dX11_read_40 rfl (lv_at hl 1 rfl) ?_
      refine lv_iload_n hx hb dX11_read_41 rfl (lv_at hl 2 rfl) ?_
      refine kt_pi (wc := [(mx, .inr (11, [.int ml, .int mw, .ref ms, .int mgl, .int mhd, .int mre, .int mag, .int mkt, .int mho, .int mpc, .int msd, .int mki, .ref mk, .ref ma, .ref mo, .ref mg, .ref mm, .ref mt, .int mdn, .int mun, .ref mn, .int mtk, .ref me, .ref mq, .int msv, .ref mwo, .ref md, .ref mf, .ref mr]))]) [0] hP hD hS hA rfl (by decide) (fun hPc hDc => va_runV (As := [.int p1]) (rest := [.ref mt, .int (nI i), .ref ma]) ⟨hx, hb, hml, hown, hts⟩ (c_X11_row l D cI cZ cB H.size mx ms mk ma mo mg mm mt mn me mq mwo md mf mr ml mw mgl mhd mre mag mkt mho mpc msd mki mdn mun mtk msv p1 (by first | assumption | omega | rfl | decide)) (cwV 1 hts gX11_read_X11_row rfl rfl rfl (by decide +kernel) ⟨Nat.le_of_ble_eq_true rfl, Nat.le_of_ble_eq_true rfl⟩) (kt_preV hN hK hPc hDc 0 (ci := 11) (q := (RX11, TX11, 29)) rfl rfl) rfl rfl hl.1 rfl (lv_room (Nat.le_of_ble_eq_true rfl)) dX11_read_42 ⟨Nat.le_of_ble_eq_true rfl, Nat.le_of_ble_eq_true rfl⟩) (fun r_42 _ H locs hw_42 hP hS => ?_)
      refine lv_iload_n hx hb dX11_read_45 rfl (lv_at hl 0 rfl) ?_
      refine lv_iadd hx hb dX11_read_46 ?_
      refine lv_topi (fun t_46 et_46 => ?_)
      first | have hk_46 := kt_addx et_46 (by first | omega | (simp only [kt_c0, kt_c1, kt_c2, kt_c3, kt_c4, kt_c8, kt_c9, kt_cm1, kt_c81, kt_c40, kt_c7, kt_c5, kt_c6, kt_c512, kt_c10, kt_c10000]; omega)) (by first | omega | (simp only [kt_c0, kt_c1, kt_c2, kt_c3, kt_c4, kt_c8, kt_c9, kt_cm1, kt_c81, kt_c40, kt_c7, kt_c5, kt_c6, kt_c512, kt_c10, kt_c10000]; omega)) | obtain ⟨k_46, hk_46, hm_46, hM_46⟩ := kt_addk et_46
      have hi_2 : vp_in t_46 172241 := by exact kt_in (by omega) (by omega)
      refine va_bald hx hb hK hP 3 2 rfl rfl hi_2 dX11_read_47 ?_
      refine lv_topi (fun a_47 ea_47 => ?_)
      have hrw := hrow.1 i (by omega)
      rw [kt_clamp (n := 41 * p1.toInt.toNat + i) (by omega)] at ea_47
      rw [← ea_47] at hrw
      have hi_3 : vp_in (nI i) 40 := by exact kt_in (by omega) (by omega)
      refine va_iast hx hb hK hP hD hS 1 0 rfl rfl hi_3 dX11_read_48 (fun H locs hP hD hS => ?_)
      have hP : va_P D vwCl [(mx, .inr (11, [.int ml, .int mw, .ref ms, .int mgl, .int mhd, .int mre, .int mag, .int mkt, .int mho, .int mpc, .int msd, .int mki, .ref mk, .ref ma, .ref mo, .ref mg, .ref mm, .ref mt, .int mdn, .int mun, .ref mn, .int mtk, .ref me, .ref mq, .int msv, .ref mwo, .ref md, .ref mf, .ref mr])), (ma, .inl (cI, 40, .inl (upd g (nI i).toNatClampNeg a_47))), (mo, .inl (cI, 81, .inl o)), (mt, .inl (cB, 172241, .inl gs_))] H := hP
      have hD : va_D A [(mx, .inr (11, [.int ml, .int mw, .ref ms, .int mgl, .int mhd, .int mre, .int mag, .int mkt, .int mho, .int mpc, .int msd, .int mki, .ref mk, .ref ma, .ref mo, .ref mg, .ref mm, .ref mt, .int mdn, .int mun, .ref mn, .int mtk, .ref me, .ref mq, .int msv, .ref mwo, .ref md, .ref mf, .ref mr])), (ma, .inl (cI, 40, .inl (upd g (nI i).toNatClampNeg a_47))), (mo, .inl (cI, 81, .inl o)), (mt, .inl (cB, 172241, .inl gs_))] := hD
      refine lv_aload_n hx hb dX11_read_49 rfl (lv_at hl 1 rfl) ?_
      refine va_get (D := D) (ci := 11) (C := RX11) (T := TX11) (N := 29) hx hb hts iw_X11_read_X11 hown hK hP 0 rfl rfl 13 (by decide) (hts (.fieldLink RX11 30 "KingTableModel" "at" "[I") (List.mem_cons_of_mem _ (List.mem_append_left _ (List.mem_cons_of_mem _ (List.mem_cons_of_mem _ (List.Mem.head _)))))) (fun _ h9 => h9) rfl dX11_read_50 ?_
      refine lv_iload_n hx hb dX11_read_53 rfl (lv_at hl 0 rfl) ?_
      have hi_4 : vp_in (nI i) 40 := by exact kt_in (by omega) (by omega)
      refine va_iald hx hb hK hP 1 0 rfl rfl hi_4 dX11_read_54 ?_
      refine lv_topi (fun a_54 ea_54 => ?_)
      rw [pk_us] at ea_54
      have he54 := congrArg Int32.toInt ea_54
      refine lv_iconst (v := (-1)) hx hb dX11_read_55 (by decide) ?_
      refine lv_icmp_eq (tgt := 71) hx hb dX11_read_56 (by decide) (fun c_56 => ?_) (fun c_56 => ?_)
      · have d_56 := c_56
        simp only [kt_lt, kt_le, kt_eq, kt_c0, kt_c1, kt_c2, kt_c3, kt_c4, kt_c8, kt_c9, kt_cm1, kt_c81, kt_c40, kt_c7, kt_c5, kt_c6, kt_c512, kt_c10, kt_c10000] at d_56
        refine lv_iinc (v := nI (i + 1)) (lv' := [(2, .int (nI (i + 1))), (0, .ref mx), (1, .int p1)]) hx hb dX11_read_71 hl (k := 0) rfl (nI_1 _) (by decide) rfl (fun ls hl => ?_)
        refine lv_goto (tgt := 23) hx hb dX11_read_74 (by decide) ?_
        exact ih_23 ((i + 1), (upd g (nI i).toNatClampNeg a_47), o) (by show ((i + 1) ≤ 40 ∧ 40 < (i + 1) + n_23 ∧ (i + 1) ≤ P_) ∧ kt_r (upd g (nI i).toNatClampNeg a_47) (i + 1) (-1) (ml.toInt * mw.toInt - 1) ∧ kt_con o (upd g (nI i).toNatClampNeg a_47) (i + 1) ∧ kt_coc o (upd g (nI i).toNatClampNeg a_47) (i + 1) ∧ ∀ p, p < (i + 1) → (upd g (nI i).toNatClampNeg a_47) p = gs_ (41 * p1.toInt.toNat + p); rw [nI_clamp (by omega)]; first
                      | exact ⟨by omega, kt_snoc hga hrw.1 (by omega), hco.skip, hcc.skip (by omega), fun p hp => if e : p = i then (by rw [e, pk_us]; exact ea_47) else (by rw [pk_un e]; exact hgp p (by omega))⟩
                      | (have e := kt_nIof (x := a_47) (by omega)
                         have h9 := hco.add (F := a_47.toInt.toNat) (by omega)
                         have h8 := hcc.add (F := a_47.toInt.toNat) (by omega) (fun qq hq h => absurd (hrj qq i a_47.toInt.toNat (by omega) (by omega) (by omega) ((hgp qq hq).symm.trans h) (ea_47.symm.trans e)) (by omega))
                         rw [← e] at h9 h8
                         rw [ea_68]
                         exact ⟨by omega, kt_snoc hga hrw.1 (by omega), h9, h8, fun p hp => if e : p = i then (by rw [e, pk_us]; exact ea_47) else (by rw [pk_un e]; exact hgp p (by omega))⟩)) H _ hP hD hS ls (lv_sub hl [0, 1, 2] rfl)
      · have d_56 := c_56
        simp only [kt_lt, kt_le, kt_eq, kt_c0, kt_c1, kt_c2, kt_c3, kt_c4, kt_c8, kt_c9, kt_cm1, kt_c81, kt_c40, kt_c7, kt_c5, kt_c6, kt_c512, kt_c10, kt_c10000] at d_56
        refine lv_aload_n hx hb dX11_read_59 rfl (lv_at hl 1 rfl) ?_
        refine va_get (D := D) (ci := 11) (C := RX11) (T := TX11) (N := 29) hx hb hts iw_X11_read_X11 hown hK hP 0 rfl rfl 14 (by decide) (hts (.fieldLink RX11 33 "KingTableModel" "on" "[I") (List.mem_cons_of_mem _ (List.mem_append_left _ (List.Mem.head _)))) (fun _ h9 => h9) rfl dX11_read_60 ?_
        refine lv_aload_n hx hb dX11_read_63 rfl (lv_at hl 1 rfl) ?_
        refine va_get (D := D) (ci := 11) (C := RX11) (T := TX11) (N := 29) hx hb hts iw_X11_read_X11 hown hK hP 0 rfl rfl 13 (by decide) (hts (.fieldLink RX11 30 "KingTableModel" "at" "[I") (List.mem_cons_of_mem _ (List.mem_append_left _ (List.mem_cons_of_mem _ (List.mem_cons_of_mem _ (List.Mem.head _)))))) (fun _ h9 => h9) rfl dX11_read_64 ?_
        refine lv_iload_n hx hb dX11_read_67 rfl (lv_at hl 0 rfl) ?_
        have hi_5 : vp_in (nI i) 40 := by exact kt_in (by omega) (by omega)
        refine va_iald hx hb hK hP 1 0 rfl rfl hi_5 dX11_read_68 ?_
        refine lv_topi (fun a_68 ea_68 => ?_)
        rw [pk_us] at ea_68
        have he68 := congrArg Int32.toInt ea_68
        refine lv_iload_n hx hb dX11_read_69 rfl (lv_at hl 0 rfl) ?_
        have hi_6 : vp_in a_68 81 := by exact kt_in (by omega) (by omega)
        refine va_iast hx hb hK hP hD hS 2 0 rfl rfl hi_6 dX11_read_70 (fun H locs hP hD hS => ?_)
        have hP : va_P D vwCl [(mx, .inr (11, [.int ml, .int mw, .ref ms, .int mgl, .int mhd, .int mre, .int mag, .int mkt, .int mho, .int mpc, .int msd, .int mki, .ref mk, .ref ma, .ref mo, .ref mg, .ref mm, .ref mt, .int mdn, .int mun, .ref mn, .int mtk, .ref me, .ref mq, .int msv, .ref mwo, .ref md, .ref mf, .ref mr])), (ma, .inl (cI, 40, .inl (upd g (nI i).toNatClampNeg a_47))), (mo, .inl (cI, 81, .inl (upd o a_68.toNatClampNeg (nI i)))), (mt, .inl (cB, 172241, .inl gs_))] H := hP
        have hD : va_D A [(mx, .inr (11, [.int ml, .int mw, .ref ms, .int mgl, .int mhd, .int mre, .int mag, .int mkt, .int mho, .int mpc, .int msd, .int mki, .ref mk, .ref ma, .ref mo, .ref mg, .ref mm, .ref mt, .int mdn, .int mun, .ref mn, .int mtk, .ref me, .ref mq, .int msv, .ref mwo, .ref md, .ref mf, .ref mr])), (ma, .inl (cI, 40, .inl (upd g (nI i).toNatClampNeg a_47))), (mo, .inl (cI, 81, .inl (upd o a_68.toNatClampNeg (nI i)))), (mt, .inl (cB, 172241, .inl gs_))] := hD
        refine lv_iinc (v := nI (i + 1)) (lv' := [(2, .int (nI (i + 1))), (0, .ref mx), (1, .int p1)]) hx hb dX11_read_71 hl (k := 0) rfl (nI_1 _) (by decide) rfl (fun ls hl => ?_)
        refine lv_goto (tgt := 23) hx hb dX11_read_74 (by decide) ?_
        exact ih_23 ((i + 1), (upd g (nI i).toNatClampNeg a_47), (upd o a_68.toNatClampNeg (nI i))) (by show ((i + 1) ≤ 40 ∧ 40 < (i + 1) + n_23 ∧ (i + 1) ≤ P_) ∧ kt_r (upd g (nI i).toNatClampNeg a_47) (i + 1) (-1) (ml.toInt * mw.toInt - 1) ∧ kt_con (upd o a_68.toNatClampNeg (nI i)) (upd g (nI i).toNatClampNeg a_47) (i + 1) ∧ kt_coc (upd o a_68.toNatClampNeg (nI i)) (upd g (nI i).toNatClampNeg a_47) (i + 1) ∧ ∀ p, p < (i + 1) → (upd g (nI i).toNatClampNeg a_47) p = gs_ (41 * p1.toInt.toNat + p); rw [nI_clamp (by omega)]; first
                      | exact ⟨by omega, kt_snoc hga hrw.1 (by omega), hco.skip, hcc.skip (by omega), fun p hp => if e : p = i then (by rw [e, pk_us]; exact ea_47) else (by rw [pk_un e]; exact hgp p (by omega))⟩
                      | (have e := kt_nIof (x := a_47) (by omega)
                         have h9 := hco.add (F := a_47.toInt.toNat) (by omega)
                         have h8 := hcc.add (F := a_47.toInt.toNat) (by omega) (fun qq hq h => absurd (hrj qq i a_47.toInt.toNat (by omega) (by omega) (by omega) ((hgp qq hq).symm.trans h) (ea_47.symm.trans e)) (by omega))
                         rw [← e] at h9 h8
                         rw [ea_68]
                         exact ⟨by omega, kt_snoc hga hrw.1 (by omega), h9, h8, fun p hp => if e : p = i then (by rw [e, pk_us]; exact ea_47) else (by rw [pk_un e]; exact hgp p (by omega))⟩)) H _ hP hD hS ls (lv_sub hl [0, 1, 2] rfl)
  · have d_5 := c_5
    simp only [kt_lt, kt_le, kt_eq, kt_c0, kt_c1, kt_c2, kt_c3, kt_c4, kt_c8, kt_c9, kt_cm1, kt_c81, kt_c40, kt_c7, kt_c5, kt_c6, kt_c512, kt_c10, kt_c10000] at d_5
    refine lv_aload_n hx hb dX11_read_8 rfl (lv_at hl 1 rfl) ?_
    refine va_get (D := D) (ci := 11) (C := RX11) (T := TX11) (N := 29) hx hb hts iw_X11_read_X11 hown hK hP 0 rfl rfl 14 (by decide) (hts (.fieldLink RX11 33 "KingTableModel" "on" "[I") (List.mem_cons_of_mem _ (List.mem_append_left _ (List.Mem.head _)))) (fun _ h9 => h9) rfl dX11_read_9 ?_
    refine lv_iload_n hx hb dX11_read_12 rfl (lv_at hl 0 rfl) ?_
    refine lv_iconst (v := (-1)) hx hb dX11_read_13 (by decide) ?_
    have hi_7 : vp_in (nI k) 81 := by exact kt_in (by omega) (by omega)
    refine va_iast hx hb hK hP hD hS 2 0 rfl rfl hi_7 dX11_read_14 (fun H locs hP hD hS => ?_)
    have hP : va_P D vwCl [(mx, .inr (11, [.int ml, .int mw, .ref ms, .int mgl, .int mhd, .int mre, .int mag, .int mkt, .int mho, .int mpc, .int msd, .int mki, .ref mk, .ref ma, .ref mo, .ref mg, .ref mm, .ref mt, .int mdn, .int mun, .ref mn, .int mtk, .ref me, .ref mq, .int msv, .ref mwo, .ref md, .ref mf, .ref mr])), (ma, .inl (cI, 40, .inl fa)), (mo, .inl (cI, 81, .inl (upd h (nI k).toNatClampNeg (-1)))), (mt, .inl (cB, 172241, .inl gs_))] H := hP
    have hD : va_D A [(mx, .inr (11, [.int ml, .int mw, .ref ms, .int mgl, .int mhd, .int mre, .int mag, .int mkt, .int mho, .int mpc, .int msd, .int mki, .ref mk, .ref ma, .ref mo, .ref mg, .ref mm, .ref mt, .int mdn, .int mun, .ref mn, .int mtk, .ref me, .ref mq, .int msv, .ref mwo, .ref md, .ref mf, .ref mr])), (ma, .inl (cI, 40, .inl fa)), (mo, .inl (cI, 81, .inl (upd h (nI k).toNatClampNeg (-1)))), (mt, .inl (cB, 172241, .inl gs_))] := hD
    refine lv_iinc (v := nI (k + 1)) (lv' := [(2, .int (nI (k + 1))), (0, .ref mx), (1, .int p1)]) hx hb dX11_read_15 hl (k := 0) rfl (nI_1 _) (by decide) rfl (fun ls hl => ?_)
    refine lv_goto (tgt := 2) hx hb dX11_read_18 (by decide) ?_
    exact ih_2 ((k + 1), (upd h (nI k).toNatClampNeg (-1))) (by show ((k + 1) ≤ 81 ∧ 81 < (k + 1) + n_2) ∧ ∀ j, j < (k + 1) → (upd h (nI k).toNatClampNeg (-1)) j = -1; refine ⟨by omega, fun j hj => ?_⟩; rw [nI_clamp (by omega)]; exact if hjk : j = k then (by rw [hjk, pk_us]) else (by rw [pk_un hjk]; exact hz j (by omega))) H _ hP hD hS ls (lv_sub hl [0, 1, 2] rfl)

theorem iw_X11_doMove_X11 : ∀ w ∈ wsX110, w ∈ wsX11_doMove := fun _ h => kt_wp_X11_doMove__X110 h
theorem iw_X11_why_X11 : ∀ w ∈ wsX110, w ∈ wsX11_why := fun _ h => kt_wp_X11_why__X110 h