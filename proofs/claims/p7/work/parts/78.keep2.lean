set_option maxHeartbeats 4000000 in
set_option maxRecDepth 100000 in
theorem c_X7_deepKeptE (l : Launch) (D : va_G) (cI cZ cB : ClassId) (sz : Nat) (so : Nat) (ru : Nat) (tr : Nat) (lk : Nat) (vp : Nat) (vd : Nat) (vt : Nat) (vg : Nat) (vw : Nat) (ve : Nat) (vo : Nat) (vq : Nat) (qd : Int32) (pp : Int32) (ct : Int32) (sv : Int32) (LW : Nat) (LH : Nat) (LS : Nat) (LQ : Nat) (la : Nat) (gr : Nat) (rk : Nat) (rs : Nat) (rt : Nat) (rv : Nat) (tt : Int32) (kg : Int32) (vc : Int32) (lg : Int32) (lh : Int32) (lt : Int32) (lr : Int32) (lc : Int32) (gt : Nat) (gg : Nat) (gn : Nat) (gs : Int32) (gm : Int32) (tg : Nat → Int32) (nb : Nat → Int32) (nw : Nat) (sf : Nat) (sh : Nat) (tu : Int32) (ff : Nat → Int32) (fh : Nat → Int32) (ck : Nat → Int32) (fs : Nat → Int32) (ft : Nat → Int32) (fv : Nat → Int32) (fp : Nat → Int32) (wo : Nat → Int32) (de : Nat → Int32) (w_ : Int) (L_ : Int) (P_ : Nat) (gl : Nat → Int32) (fk : Nat → Int32) (fr : Nat → Int32) (p2 : Int32) (p3 : Int32) (hlw : LW ≤ 10000) (hlh : LH ≤ 10000) (hls : LS ≤ 4000000) (hlq : LQ ≤ LW ∧ LQ ≤ LH) (hgs : 0 ≤ gs.toInt ∧ gs.toInt ≤ 81) (hgt : kt_r tg 81 0 2) (hnb : kt_r nb 324 (-1) 80) (hlr : 0 ≤ lr.toInt ∧ lr.toInt ≤ 8) (htt : 0 ≤ tt.toInt ∧ tt.toInt ≤ 40) (hkg : -1 ≤ kg.toInt ∧ kg.toInt ≤ 39) (hvc : 0 ≤ vc.toInt ∧ vc.toInt ≤ 4) (hff : kt_r ff 40 (-1) 80) (hfh : kt_r fh 81 (-1) 39) (htu : 0 ≤ tu.toInt ∧ tu.toInt ≤ 1) (hrk : kt_r ck 40 0 4) (hrs : kt_r fs 40 0 1) (hrt : kt_r ft 40 0 1) (hrv : kt_r fv 4 0 39) (hpp : 0 ≤ pp.toInt ∧ 2 * pp.toInt ≤ (LQ : Int)) (hwo : kt_r wo LW (-1) 2) (hp2 : 0 ≤ p2.toInt ∧ p2.toInt < 2 * pp.toInt) (hrx : kt_RX w_ L_ P_ tt kg gs lg lt tg gl nb fk fs ft fr ck) (hstd : kt_ST w_ L_ P_ ff fh) (hp3 : 0 ≤ p3.toInt ∧ p3.toInt ≤ 1280) : kt_Mi l yX7_deepKept wsX7_deepKept { frames := 3, cells := 0, slots := 0, locals := 77 } D (kt_ty cI cZ cB) [.ref so, .ref nw, .int p2, .int p3] sz [(so, .inr (7, [.ref ru, .ref tr, .ref lk, .ref vp, .ref vd, .ref vt, .ref vg, .ref vw, .ref ve, .ref vo, .ref vq, .int qd, .int pp, .int ct, .int sv])), (ru, .inr (6, [.ref la, .ref gr, .ref rk, .ref rs, .ref rt, .int tt, .int kg, .ref rv, .int vc])), (la, .inr (1, [.int lg, .int lh, .int lt, .int lr, .int lc])), (gr, .inr (0, [.ref gt, .ref gg, .ref gn, .int gs, .int gm])), (gt, .inl (cI, 81, .inl tg)), (gn, .inl (cI, 324, .inl nb)), (nw, .inr (8, [.ref sf, .ref sh, .int tu])), (sf, .inl (cI, 40, .inl ff)), (sh, .inl (cI, 81, .inl fh)), (rk, .inl (cI, 40, .inl ck)), (rs, .inl (cI, 40, .inl fs)), (rt, .inl (cZ, 40, .inl ft)), (rv, .inl (cI, 4, .inl fv)), (vp, .inl (cI, 40, .inl fp)), (vw, .inl (cI, LW, .inl wo)), (ve, .inl (cI, LW, .inl de))] (fun (r : Int32) (u : Int32 × (Nat → Int32)) => kt_r u.2 4 0 39 ∧ 0 ≤ u.1.toInt ∧ u.1.toInt ≤ 4) (fun (u : Int32 × (Nat → Int32)) => [(so, .inr (7, [.ref ru, .ref tr, .ref lk, .ref vp, .ref vd, .ref vt, .ref vg, .ref vw, .ref ve, .ref vo, .ref vq, .int qd, .int pp, .int ct, .int sv])), (ru, .inr (6, [.ref la, .ref gr, .ref rk, .ref rs, .ref rt, .int tt, .int kg, .ref rv, .int u.1])), (la, .inr (1, [.int lg, .int lh, .int lt, .int lr, .int lc])), (gr, .inr (0, [.ref gt, .ref gg, .ref gn, .int gs, .int gm])), (gt, .inl (cI, 81, .inl tg)), (gn, .inl (cI, 324, .inl nb)), (nw, .inr (8, [.ref sf, .ref sh, .int tu])), (sf, .inl (cI, 40, .inl ff)), (sh, .inl (cI, 81, .inl fh)), (rk, .inl (cI, 40, .inl ck)), (rs, .inl (cI, 40, .inl fs)), (rt, .inl (cZ, 40, .inl ft)), (rv, .inl (cI, 4, .inl u.2)), (vp, .inl (cI, 40, .inl fp)), (vw, .inl (cI, LW, .inl wo)), (ve, .inl (cI, LW, .inl de))]) 0 0 := by
  refine kt_Mi.of (cc := cX7_deepKept) (maxL := 10) (ret := some .int) (by decide) rfl (Nat.le_of_ble_eq_true rfl) ?_
  intro p e s m below meth c A ls H hAt hP hD hS hl
  obtain ⟨hx, hb, hr, hml, hown, hts, hN, hK, hlk, hnm, hA⟩ := hAt
  have hl : lv_has ls 10 [(0, .ref so), (1, .ref nw), (2, .int p2), (3, .int p3)] := hl
  have hown : s.vm.findClass RX7 = some m.cls := hown
  have hrx0 := hrx
  obtain ⟨hgx, hnx, htf, ⟨htP, hP40⟩, hsd_, hkq, hck, hkr⟩ := hrx
  have hgx1 := hgx.1
  have hw_ := hgx.2.1
  have hL_ := hgx.2.2
  have httP : tt.toInt = (P_ : Int) := by rw [htP, kt_nI (by omega)]
  have hsz := kt_mulb hL_ hw_
  refine lv_iload_n hx hb dX7_deepKept_0 rfl (lv_at hl 3 rfl) ?_
  refine lv_bipush (v := 32) hx hb dX7_deepKept_1 (by decide) ?_
  refine lv_idiv hx hb dX7_deepKept_3 (by decide) ?_
  refine lv_topi (fun t_3 et_3 => ?_)
  have hk_3 := kt_divk et_3 (by omega) (by decide)
  rw [show (32 : Int32).toInt = 32 by decide] at hk_3
  refine lv_istore (lv' := [(4, .int t_3), (0, .ref so), (1, .ref nw), (2, .int p2), (3, .int p3)]) hx hb dX7_deepKept_4 hl (by decide) rfl (fun ls hl => ?_)
  refine lv_iload_n hx hb dX7_deepKept_6 rfl (lv_at hl 4 rfl) ?_
  refine lv_bipush (v := 32) hx hb dX7_deepKept_7 (by decide) ?_
  refine lv_irem hx hb dX7_deepKept_9 (by decide) ?_
  refine lv_topi (fun t_9 et_9 => ?_)
  have hk_9 := kt_remk et_9 (by omega) (by decide)
  rw [show (32 : Int32).toInt = 32 by decide] at hk_9
  refine lv_bipush (v := 8) hx hb dX7_deepKept_10 (by decide) ?_
  refine lv_idiv hx hb dX7_deepKept_12 (by decide) ?_
  refine lv_topi (fun t_12 et_12 => ?_)
  have hk_12 := kt_divk et_12 (by omega) (by decide)
  rw [show (8 : Int32).toInt = 8 by decide] at hk_12
  refine lv_istore (lv' := [(5, .int t_12), (4, .int t_3), (0, .ref so), (1, .ref nw), (2, .int p2), (3, .int p3)]) hx hb dX7_deepKept_13 hl (by decide) rfl (fun ls hl => ?_)
  refine lv_iload_n hx hb dX7_deepKept_15 rfl (lv_at hl 5 rfl) ?_
  refine lv_bipush (v := 8) hx hb dX7_deepKept_16 (by decide) ?_
  refine lv_irem hx hb dX7_deepKept_18 (by decide) ?_
  refine lv_topi (fun t_18 et_18 => ?_)
  have hk_18 := kt_remk et_18 (by omega) (by decide)
  rw [show (8 : Int32).toInt = 8 by decide] at hk_18
  refine lv_iconst (v := 1) hx hb dX7_deepKept_19 (by decide) ?_
  refine lv_iadd hx hb dX7_deepKept_20 ?_
  refine lv_topi (fun t_20 et_20 => ?_)
  first | have hk_20 := kt_addx et_20 (by first | omega | (simp only [kt_c0, kt_c1, kt_c2, kt_c3, kt_c4, kt_c8, kt_c9, kt_cm1, kt_c81, kt_c40, kt_c7, kt_c5, kt_c6, kt_c512, kt_c10, kt_c10000]; omega)) (by first | omega | (simp only [kt_c0, kt_c1, kt_c2, kt_c3, kt_c4, kt_c8, kt_c9, kt_cm1, kt_c81, kt_c40, kt_c7, kt_c5, kt_c6, kt_c512, kt_c10, kt_c10000]; omega)) | obtain ⟨k_20, hk_20, hm_20, hM_20⟩ := kt_addk et_20
  try simp only [kt_c0, kt_c1, kt_c2, kt_c3, kt_c4, kt_c8, kt_c9, kt_cm1, kt_c81, kt_c40, kt_c7, kt_c5, kt_c6, kt_c512, kt_c10, kt_c10000] at hk_20
  refine lv_istore (lv' := [(6, .int t_20), (5, .int t_12), (4, .int t_3), (0, .ref so), (1, .ref nw), (2, .int p2), (3, .int p3)]) hx hb dX7_deepKept_21 hl (by decide) rfl (fun ls hl => ?_)
  refine lv_aload_n hx hb dX7_deepKept_23 rfl (lv_at hl 3 rfl) ?_
  refine va_get (D := D) (ci := 7) (C := RX7) (T := TX7) (N := 15) hx hb hts iw_X7_deepKept_X7 hown hK hP 0 rfl rfl 0 (by decide) (hts (.fieldLink RX7 50 "KingTable$Solver" "rules" "LKingTable$Rules;") (kt_wp_X7_deepKept__X7_deepKept_r1 kt_wm0)) (fun _ h9 => h9) rfl dX7_deepKept_24 ?_
  refine lv_iload hx hb dX7_deepKept_27 (lv_at hl 2 rfl) ?_
  refine kt_pi (wc := [(ru, .inr (6, [.ref la, .ref gr, .ref rk, .ref rs, .ref rt, .int tt, .int kg, .ref rv, .int vc]))]) [1] hP hD hS hA rfl (by decide) (fun hPc hDc => va_runV (As := [.int t_3]) (rest := []) ⟨hx, hb, hml, hown, hts⟩ (c_X6_isPiece l D cI cZ cB H.size ru la gr rk rs rt rv tt kg vc t_3 ) (cwV 1 hts gX7_deepKept_X6_isPiece rfl rfl rfl (by decide +kernel) ⟨Nat.le_of_ble_eq_true rfl, Nat.le_of_ble_eq_true rfl⟩) (kt_preV hN hK hPc hDc 0 (ci := 6) (q := (RX6, TX6, 9)) rfl rfl) rfl rfl hl.1 rfl (lv_room (Nat.le_of_ble_eq_true rfl)) dX7_deepKept_29 ⟨Nat.le_of_ble_eq_true rfl, Nat.le_of_ble_eq_true rfl⟩) (fun r_29 _ H locs hw_29 hP hS => ?_)
  have hq1 := hw_29
  refine lv_if_eq (tgt := 69) hx hb dX7_deepKept_32 (by decide) (fun c_32 => ?_) (fun c_32 => ?_)
  · have d_32 := c_32
    simp only [kt_lt, kt_le, kt_eq, kt_c0, kt_c1, kt_c2, kt_c3, kt_c4, kt_c8, kt_c9, kt_cm1, kt_c81, kt_c40, kt_c7, kt_c5, kt_c6, kt_c512, kt_c10, kt_c10000] at d_32
    refine lv_iconst (v := (-1)) hx hb dX7_deepKept_69 (by decide) ?_
    exact kt_ri (vc, fv) hx hb hr hlk hS dX7_deepKept_70 hP hD (by show kt_r fv 4 0 39 ∧ 0 ≤ vc.toInt ∧ vc.toInt ≤ 4; exact ⟨hrv, hvc⟩)
  · have d_32 := c_32
    simp only [kt_lt, kt_le, kt_eq, kt_c0, kt_c1, kt_c2, kt_c3, kt_c4, kt_c8, kt_c9, kt_cm1, kt_c81, kt_c40, kt_c7, kt_c5, kt_c6, kt_c512, kt_c10, kt_c10000] at d_32
    have hq1 := hq1.t c_32
    rw [httP] at hq1
    refine lv_aload_n hx hb dX7_deepKept_35 rfl (lv_at hl 3 rfl) ?_
    refine va_get (D := D) (ci := 7) (C := RX7) (T := TX7) (N := 15) hx hb hts iw_X7_deepKept_X7 hown hK hP 0 rfl rfl 0 (by decide) (hts (.fieldLink RX7 50 "KingTable$Solver" "rules" "LKingTable$Rules;") (kt_wp_X7_deepKept__X7_deepKept_r1 kt_wm0)) (fun _ h9 => h9) rfl dX7_deepKept_36 ?_
    refine va_getN (D := D) (ci := 6) (C := RX6) (T := TX6) (N := 9) hx hb hts iw_X7_deepKept_X6 hown hK hP 1 rfl rfl 3 (by decide) (va_Nw.use (w := .fieldLinkNest RX7 150 "KingTable$Rules" "sides" "[I" "KingTable") rfl (hN _ (by decide +kernel))) (fun _ h9 => h9) rfl dX7_deepKept_39 ?_
    refine lv_iload hx hb dX7_deepKept_42 (lv_at hl 2 rfl) ?_
    have hi_1 : vp_in t_3 40 := by exact kt_in (by omega) (by omega)
    refine va_iald hx hb hK hP 10 0 rfl rfl hi_1 dX7_deepKept_44 ?_
    refine lv_topi (fun a_44 ea_44 => ?_)
    have ra_44 := hrs.get hi_1
    rw [← ea_44] at ra_44
    refine lv_aload_n hx hb dX7_deepKept_45 rfl (lv_at hl 4 rfl) ?_
    refine va_getN (D := D) (ci := 8) (C := RX8) (T := TX8) (N := 3) hx hb hts iw_X7_deepKept_X8 hown hK hP 6 rfl rfl 2 (by decide) (va_Nw.use (w := .fieldLinkNest RX7 125 "KingTable$Stand" "turn" "I" "KingTable") rfl (hN _ (by decide +kernel))) (fun _ h9 => h9) rfl dX7_deepKept_46 ?_
    refine lv_icmp_ne (tgt := 69) hx hb dX7_deepKept_49 (by decide) (fun c_49 => ?_) (fun c_49 => ?_)
    · have d_49 := c_49
      simp only [kt_lt, kt_le, kt_eq, kt_c0, kt_c1, kt_c2, kt_c3, kt_c4, kt_c8, kt_c9, kt_cm1, kt_c81, kt_c40, kt_c7, kt_c5, kt_c6, kt_c512, kt_c10, kt_c10000] at d_49
      refine lv_iconst (v := (-1)) hx hb dX7_deepKept_69 (by decide) ?_
      exact kt_ri (vc, fv) hx hb hr hlk hS dX7_deepKept_70 hP hD (by show kt_r fv 4 0 39 ∧ 0 ≤ vc.toInt ∧ vc.toInt ≤ 4; exact ⟨hrv, hvc⟩)
    · have d_49 := c_49
      simp only [kt_lt, kt_le, kt_eq, kt_c0, kt_c1, kt_c2, kt_c3, kt_c4, kt_c8, kt_c9, kt_cm1, kt_c81, kt_c40, kt_c7, kt_c5, kt_c6, kt_c512, kt_c10, kt_c10000] at d_49
      refine lv_iload hx hb dX7_deepKept_52 (lv_at hl 0 rfl) ?_
      refine lv_aload_n hx hb dX7_deepKept_54 rfl (lv_at hl 3 rfl) ?_
      refine va_get (D := D) (ci := 7) (C := RX7) (T := TX7) (N := 15) hx hb hts iw_X7_deepKept_X7 hown hK hP 0 rfl rfl 0 (by decide) (hts (.fieldLink RX7 50 "KingTable$Solver" "rules" "LKingTable$Rules;") (kt_wp_X7_deepKept__X7_deepKept_r1 kt_wm0)) (fun _ h9 => h9) rfl dX7_deepKept_55 ?_
      refine lv_aload_n hx hb dX7_deepKept_58 rfl (lv_at hl 4 rfl) ?_
      refine lv_iload hx hb dX7_deepKept_59 (lv_at hl 2 rfl) ?_
      refine lv_iload hx hb dX7_deepKept_61 (lv_at hl 1 rfl) ?_
      refine kt_pi (wc := [(ru, .inr (6, [.ref la, .ref gr, .ref rk, .ref rs, .ref rt, .int tt, .int kg, .ref rv, .int vc])), (la, .inr (1, [.int lg, .int lh, .int lt, .int lr, .int lc])), (gr, .inr (0, [.ref gt, .ref gg, .ref gn, .int gs, .int gm])), (gt, .inl (cI, 81, .inl tg)), (gn, .inl (cI, 324, .inl nb)), (nw, .inr (8, [.ref sf, .ref sh, .int tu])), (sf, .inl (cI, 40, .inl ff)), (sh, .inl (cI, 81, .inl fh))]) [1, 2, 3, 4, 5, 6, 7, 8] hP hD hS hA rfl (by decide) (fun hPc hDc => va_runV (As := [.ref nw, .int t_3, .int t_12]) (rest := [.int t_20]) ⟨hx, hb, hml, hown, hts⟩ (c_X6_roomE l D cI cZ cB H.size ru la gr rk rs rt rv tt kg vc lg lh lt lr lc gt gg gn gs gm tg nb nw sf sh tu ff fh w_ L_ P_ gl fk fs ft fr ck t_3 t_12 hgs hgt hnb hff hfh hlr hrx0 hstd.1 (by omega) (by omega)) (cwV 3 hts gX7_deepKept_X6_room rfl rfl rfl (by decide +kernel) ⟨Nat.le_of_ble_eq_true rfl, Nat.le_of_ble_eq_true rfl⟩) (kt_preV hN hK hPc hDc 0 (ci := 6) (q := (RX6, TX6, 9)) rfl rfl) rfl rfl hl.1 rfl (lv_room (Nat.le_of_ble_eq_true rfl)) dX7_deepKept_63 ⟨Nat.le_of_ble_eq_true rfl, Nat.le_of_ble_eq_true rfl⟩) (fun r_63 _ H locs hw_63 hP hS => ?_)
      
      refine lv_icmp_le (tgt := 71) hx hb dX7_deepKept_66 (by decide) (fun c_66 => ?_) (fun c_66 => ?_)
      · have d_66 := c_66
        simp only [kt_lt, kt_le, kt_eq, kt_c0, kt_c1, kt_c2, kt_c3, kt_c4, kt_c8, kt_c9, kt_cm1, kt_c81, kt_c40, kt_c7, kt_c5, kt_c6, kt_c512, kt_c10, kt_c10000] at d_66
        have hX := hstd.1.get (kt_in (x := t_3) (n := P_) (by omega) (by omega))
        have hnn : ¬ ff t_3.toNatClampNeg = -1 := fun h => by have h5 := hw_63.1 h; omega
        have hnm2 : ¬ (ff t_3.toNatClampNeg).toInt = -1 := fun h => hnn ((kt_eq _ _).mpr (h.trans kt_cm1.symm))
        have hxo : 0 ≤ (ff t_3.toNatClampNeg).toInt := by omega
        have hRM := hw_63.2.1 hnn
        have hb0 := (hRM.2 t_20.toInt.toNat (by omega)).mp (by omega)
        rw [show ((t_20.toInt.toNat : Nat) : Int) = t_20.toInt by omega] at hb0
        have hfr2 := (kt_bar_free hb0 (by omega)).2
        have har := kt_al_r (a := t_12.toInt) (n := t_20.toInt) hw_ hL_ (show 0 ≤ (ff t_3.toNatClampNeg).toInt ∧ (ff t_3.toNatClampNeg).toInt < L_ * w_ by omega) (by omega)
        have hrm2 := (kt_bar_free hb0 (by omega)).1
        refine lv_aload_n hx hb dX7_deepKept_71 rfl (lv_at hl 3 rfl) ?_
        refine va_get (D := D) (ci := 7) (C := RX7) (T := TX7) (N := 15) hx hb hts iw_X7_deepKept_X7 hown hK hP 0 rfl rfl 0 (by decide) (hts (.fieldLink RX7 50 "KingTable$Solver" "rules" "LKingTable$Rules;") (kt_wp_X7_deepKept__X7_deepKept_r1 kt_wm0)) (fun _ h9 => h9) rfl dX7_deepKept_72 ?_
        refine va_getN (D := D) (ci := 6) (C := RX6) (T := TX6) (N := 9) hx hb hts iw_X7_deepKept_X6 hown hK hP 1 rfl rfl 1 (by decide) (va_Nw.use (w := .fieldLinkNest RX7 78 "KingTable$Rules" "ground" "LKingTable$Ground;" "KingTable") rfl (hN _ (by decide +kernel))) (fun _ h9 => h9) rfl dX7_deepKept_75 ?_
        refine lv_aload_n hx hb dX7_deepKept_78 rfl (lv_at hl 4 rfl) ?_
        refine lv_iload hx hb dX7_deepKept_79 (lv_at hl 2 rfl) ?_
        refine kt_pi (wc := [(nw, .inr (8, [.ref sf, .ref sh, .int tu])), (sf, .inl (cI, 40, .inl ff))]) [6, 7] hP hD hS hA rfl (by decide) (fun hPc hDc => va_runV (As := [.int t_3]) (rest := [.ref gr]) ⟨hx, hb, hml, hown, hts⟩ (c_X8_fieldOfE l D cI cZ cB H.size nw sf sh tu ff t_3 hff) (cwV 1 hts gX7_deepKept_X8_fieldOf rfl rfl rfl (by decide +kernel) ⟨Nat.le_of_ble_eq_true rfl, Nat.le_of_ble_eq_true rfl⟩) (kt_preV hN hK hPc hDc 0 (ci := 8) (q := (RX8, TX8, 3)) rfl rfl) rfl rfl hl.1 rfl (lv_room (Nat.le_of_ble_eq_true rfl)) dX7_deepKept_81 ⟨Nat.le_of_ble_eq_true rfl, Nat.le_of_ble_eq_true rfl⟩) (fun r_81 _ H locs hw_81 hP hS => ?_)
        have e81 := hw_81.1 (by omega)
        refine lv_iload hx hb dX7_deepKept_84 (lv_at hl 1 rfl) ?_
        refine lv_iload hx hb dX7_deepKept_86 (lv_at hl 0 rfl) ?_
        refine kt_pi (wc := [(gr, .inr (0, [.ref gt, .ref gg, .ref gn, .int gs, .int gm])), (gn, .inl (cI, 324, .inl nb))]) [3, 5] hP hD hS hA rfl (by decide) (fun hPc hDc => va_runV (As := [.int r_81, .int t_12, .int t_20]) (rest := []) ⟨hx, hb, hml, hown, hts⟩ (c_X0_awayE l D cI cZ cB H.size gr gt gg gn gs gm nb w_ L_ r_81 t_12 t_20 hgs hnb hgx hnx (by rw [e81]; omega) (by omega) (by omega)) (cwV 3 hts gX7_deepKept_X0_away rfl rfl rfl (by decide +kernel) ⟨Nat.le_of_ble_eq_true rfl, Nat.le_of_ble_eq_true rfl⟩) (kt_preV hN hK hPc hDc 0 (ci := 0) (q := (RX0, TX0, 5)) rfl rfl) rfl rfl hl.1 rfl (lv_room (Nat.le_of_ble_eq_true rfl)) dX7_deepKept_88 ⟨Nat.le_of_ble_eq_true rfl, Nat.le_of_ble_eq_true rfl⟩) (fun r_88 _ H locs hw_88 hP hS => ?_)
        rw [e81] at hw_88
        rw [← hw_88] at hfr2 har
        refine lv_istore (lv' := [(7, .int r_88), (6, .int t_20), (5, .int t_12), (4, .int t_3), (0, .ref so), (1, .ref nw), (2, .int p2), (3, .int p3)]) hx hb dX7_deepKept_91 hl (by decide) rfl (fun ls hl => ?_)
        refine lv_aload_n hx hb dX7_deepKept_93 rfl (lv_at hl 4 rfl) ?_
        refine va_get (D := D) (ci := 7) (C := RX7) (T := TX7) (N := 15) hx hb hts iw_X7_deepKept_X7 hown hK hP 0 rfl rfl 0 (by decide) (hts (.fieldLink RX7 50 "KingTable$Solver" "rules" "LKingTable$Rules;") (kt_wp_X7_deepKept__X7_deepKept_r1 kt_wm0)) (fun _ h9 => h9) rfl dX7_deepKept_94 ?_
        refine lv_aload_n hx hb dX7_deepKept_97 rfl (lv_at hl 5 rfl) ?_
        refine lv_iload hx hb dX7_deepKept_98 (lv_at hl 3 rfl) ?_
        refine lv_iload hx hb dX7_deepKept_100 (lv_at hl 0 rfl) ?_
        have hfree : ∀ q, q < P_ → ¬ ff q = nI r_88.toInt.toNat := hstd.2.2.1.empty hP40 (by omega) hfr2
        refine kt_bi (wc := [(ru, .inr (6, [.ref la, .ref gr, .ref rk, .ref rs, .ref rt, .int tt, .int kg, .ref rv, .int vc])), (la, .inr (1, [.int lg, .int lh, .int lt, .int lr, .int lc])), (gr, .inr (0, [.ref gt, .ref gg, .ref gn, .int gs, .int gm])), (gt, .inl (cI, 81, .inl tg)), (gn, .inl (cI, 324, .inl nb)), (nw, .inr (8, [.ref sf, .ref sh, .int tu])), (sf, .inl (cI, 40, .inl ff)), (sh, .inl (cI, 81, .inl fh)), (rk, .inl (cI, 40, .inl ck)), (rs, .inl (cI, 40, .inl fs)), (rt, .inl (cZ, 40, .inl ft)), (rv, .inl (cI, 4, .inl fv))]) (wr := [(so, .inr (7, [.ref ru, .ref tr, .ref lk, .ref vp, .ref vd, .ref vt, .ref vg, .ref vw, .ref ve, .ref vo, .ref vq, .int qd, .int pp, .int ct, .int sv])), (vp, .inl (cI, 40, .inl fp)), (vw, .inl (cI, LW, .inl wo)), (ve, .inl (cI, LW, .inl de))]) [1, 2, 3, 4, 5, 6, 7, 8, 9, 10, 11, 12] [0, 13, 14, 15] hP hD hS hA rfl rfl (by decide) (by decide) (by decide) (fun hPc hDc => va_runV (As := [.ref nw, .int t_3, .int r_88]) (rest := []) ⟨hx, hb, hml, hown, hts⟩ (c_X6_findVictimsE l D cI cZ cB H.size ru la gr rk rs rt rv tt kg vc lg lh lt lr lc gt gg gn gs gm tg nb nw sf sh tu ff fh ck fs ft fv w_ L_ P_ gl fk fr t_3 r_88 hgs hgt hnb hlr htt hkg hvc hff hfh htu hrk hrs hrt hrv hrx0 hstd (by omega) hxo (by omega) hfree) (cwV 3 hts gX7_deepKept_X6_findVictims rfl rfl rfl (by decide +kernel) ⟨Nat.le_of_ble_eq_true rfl, Nat.le_of_ble_eq_true rfl⟩) (kt_preV hN hK hPc hDc 0 (ci := 6) (q := (RX6, TX6, 9)) rfl rfl) rfl rfl hl.1 rfl (lv_room (Nat.le_of_ble_eq_true rfl)) dX7_deepKept_102 ⟨Nat.le_of_ble_eq_true rfl, Nat.le_of_ble_eq_true rfl⟩) (fun r_102 u_ H locs hw_102 hP hD hS => ?_)
        obtain ⟨fv2_102, vc2_102⟩ := u_
        have hP : va_P D vwCl [(so, .inr (7, [.ref ru, .ref tr, .ref lk, .ref vp, .ref vd, .ref vt, .ref vg, .ref vw, .ref ve, .ref vo, .ref vq, .int qd, .int pp, .int ct, .int sv])), (ru, .inr (6, [.ref la, .ref gr, .ref rk, .ref rs, .ref rt, .int tt, .int kg, .ref rv, .int vc2_102])), (la, .inr (1, [.int lg, .int lh, .int lt, .int lr, .int lc])), (gr, .inr (0, [.ref gt, .ref gg, .ref gn, .int gs, .int gm])), (gt, .inl (cI, 81, .inl tg)), (gn, .inl (cI, 324, .inl nb)), (nw, .inr (8, [.ref sf, .ref sh, .int tu])), (sf, .inl (cI, 40, .inl ff)), (sh, .inl (cI, 81, .inl fh)), (rk, .inl (cI, 40, .inl ck)), (rs, .inl (cI, 40, .inl fs)), (rt, .inl (cZ, 40, .inl ft)), (rv, .inl (cI, 4, .inl fv2_102)), (vp, .inl (cI, 40, .inl fp)), (vw, .inl (cI, LW, .inl wo)), (ve, .inl (cI, LW, .inl de))] H := hP.sub [0, 4, 5, 6, 7, 8, 9, 10, 11, 12, 13, 14, 15, 1, 2, 3] rfl
        have hD : va_D A [(so, .inr (7, [.ref ru, .ref tr, .ref lk, .ref vp, .ref vd, .ref vt, .ref vg, .ref vw, .ref ve, .ref vo, .ref vq, .int qd, .int pp, .int ct, .int sv])), (ru, .inr (6, [.ref la, .ref gr, .ref rk, .ref rs, .ref rt, .int tt, .int kg, .ref rv, .int vc2_102])), (la, .inr (1, [.int lg, .int lh, .int lt, .int lr, .int lc])), (gr, .inr (0, [.ref gt, .ref gg, .ref gn, .int gs, .int gm])), (gt, .inl (cI, 81, .inl tg)), (gn, .inl (cI, 324, .inl nb)), (nw, .inr (8, [.ref sf, .ref sh, .int tu])), (sf, .inl (cI, 40, .inl ff)), (sh, .inl (cI, 81, .inl fh)), (rk, .inl (cI, 40, .inl ck)), (rs, .inl (cI, 40, .inl fs)), (rt, .inl (cZ, 40, .inl ft)), (rv, .inl (cI, 4, .inl fv2_102)), (vp, .inl (cI, 40, .inl fp)), (vw, .inl (cI, LW, .inl wo)), (ve, .inl (cI, LW, .inl de))] := hD.sub [0, 4, 5, 6, 7, 8, 9, 10, 11, 12, 13, 14, 15, 1, 2, 3] (by decide) rfl
        try dsimp only at hw_102
        obtain ⟨er, hVL0, hrv, hvc⟩ := hw_102
        refine lv_pop hx hb dX7_deepKept_105 rfl ?_
        refine lv_aload_n hx hb dX7_deepKept_106 rfl (lv_at hl 4 rfl) ?_
        refine lv_aload_n hx hb dX7_deepKept_107 rfl (lv_at hl 5 rfl) ?_
        refine lv_iload_n hx hb dX7_deepKept_108 rfl (lv_at hl 6 rfl) ?_
        refine lv_iload hx hb dX7_deepKept_109 (lv_at hl 3 rfl) ?_
        refine lv_iload hx hb dX7_deepKept_111 (lv_at hl 0 rfl) ?_
        refine kt_pi (wc := [(so, .inr (7, [.ref ru, .ref tr, .ref lk, .ref vp, .ref vd, .ref vt, .ref vg, .ref vw, .ref ve, .ref vo, .ref vq, .int qd, .int pp, .int ct, .int sv])), (ru, .inr (6, [.ref la, .ref gr, .ref rk, .ref rs, .ref rt, .int tt, .int kg, .ref rv, .int vc2_102])), (gr, .inr (0, [.ref gt, .ref gg, .ref gn, .int gs, .int gm])), (rv, .inl (cI, 4, .inl fv2_102)), (vp, .inl (cI, 40, .inl fp)), (nw, .inr (8, [.ref sf, .ref sh, .int tu])), (sf, .inl (cI, 40, .inl ff))]) [0, 1, 3, 12, 13, 6, 7] hP hD hS hA rfl (by decide) (fun hPc hDc => va_runV (As := [.ref nw, .int p2, .int t_3, .int r_88]) (rest := []) ⟨hx, hb, hml, hown, hts⟩ (c_X7_behindMove l D cI cZ cB H.size so ru tr lk vp vd vt vg vw ve vo vq qd pp ct sv la gr rk rs rt rv tt kg vc2_102 gt gg gn gs gm fv2_102 fp nw sf sh tu ff p2 t_3 r_88 (by first | assumption | omega | rfl | decide) (by first | assumption | omega | rfl | decide) (by first | assumption | omega | rfl | decide) (by first | assumption | omega | rfl | decide)) (cwV 4 hts gX7_deepKept_X7_behindMove rfl rfl rfl (by decide +kernel) ⟨Nat.le_of_ble_eq_true rfl, Nat.le_of_ble_eq_true rfl⟩) (kt_preV hN hK hPc hDc 0 (ci := 7) (q := (RX7, TX7, 15)) rfl rfl) rfl rfl hl.1 rfl (lv_room (Nat.le_of_ble_eq_true rfl)) dX7_deepKept_113 ⟨Nat.le_of_ble_eq_true rfl, Nat.le_of_ble_eq_true rfl⟩) (fun r_113 _ H locs hw_113 hP hS => ?_)
        refine lv_istore (lv' := [(8, .int r_113), (7, .int r_88), (6, .int t_20), (5, .int t_12), (4, .int t_3), (0, .ref so), (1, .ref nw), (2, .int p2), (3, .int p3)]) hx hb dX7_deepKept_116 hl (by decide) rfl (fun ls hl => ?_)
        refine lv_iload hx hb dX7_deepKept_118 (lv_at hl 0 rfl) ?_
        refine kt_join (σ := Int32) 155 10 (fun u => [(so, .inr (7, [.ref ru, .ref tr, .ref lk, .ref vp, .ref vd, .ref vt, .ref vg, .ref vw, .ref ve, .ref vo, .ref vq, .int qd, .int pp, .int ct, .int sv])), (ru, .inr (6, [.ref la, .ref gr, .ref rk, .ref rs, .ref rt, .int tt, .int kg, .ref rv, .int vc2_102])), (la, .inr (1, [.int lg, .int lh, .int lt, .int lr, .int lc])), (gr, .inr (0, [.ref gt, .ref gg, .ref gn, .int gs, .int gm])), (gt, .inl (cI, 81, .inl tg)), (gn, .inl (cI, 324, .inl nb)), (nw, .inr (8, [.ref sf, .ref sh, .int tu])), (sf, .inl (cI, 40, .inl ff)), (sh, .inl (cI, 81, .inl fh)), (rk, .inl (cI, 40, .inl ck)), (rs, .inl (cI, 40, .inl fs)), (rt, .inl (cZ, 40, .inl ft)), (rv, .inl (cI, 4, .inl fv2_102)), (vp, .inl (cI, 40, .inl fp)), (vw, .inl (cI, LW, .inl wo)), (ve, .inl (cI, LW, .inl de))]) (fun u => [(8, .int r_113), (7, .int r_88), (6, .int t_20), (5, .int t_12), (4, .int t_3), (0, .ref so), (1, .ref nw), (2, .int p2), (3, .int p3)]) (fun u => [.int u]) (fun u => u.toInt = 0 ∨ (0 ≤ r_113.toInt ∧ r_113.toInt < 2 * pp.toInt)) (D := D) (A := A) (H0 := s.heap) (fun u hI H locs hP hD hS ls hl => ?_) (fun j_155 => ?_)
        · obtain ⟨kp, rfl⟩ : ∃ z, z = u := ⟨_, rfl⟩
          have hP : va_P D vwCl [(so, .inr (7, [.ref ru, .ref tr, .ref lk, .ref vp, .ref vd, .ref vt, .ref vg, .ref vw, .ref ve, .ref vo, .ref vq, .int qd, .int pp, .int ct, .int sv])), (ru, .inr (6, [.ref la, .ref gr, .ref rk, .ref rs, .ref rt, .int tt, .int kg, .ref rv, .int vc2_102])), (la, .inr (1, [.int lg, .int lh, .int lt, .int lr, .int lc])), (gr, .inr (0, [.ref gt, .ref gg, .ref gn, .int gs, .int gm])), (gt, .inl (cI, 81, .inl tg)), (gn, .inl (cI, 324, .inl nb)), (nw, .inr (8, [.ref sf, .ref sh, .int tu])), (sf, .inl (cI, 40, .inl ff)), (sh, .inl (cI, 81, .inl fh)), (rk, .inl (cI, 40, .inl ck)), (rs, .inl (cI, 40, .inl fs)), (rt, .inl (cZ, 40, .inl ft)), (rv, .inl (cI, 4, .inl fv2_102)), (vp, .inl (cI, 40, .inl fp)), (vw, .inl (cI, LW, .inl wo)), (ve, .inl (cI, LW, .inl de))] H := hP
          have hD : va_D A [(so, .inr (7, [.ref ru, .ref tr, .ref lk, .ref vp, .ref vd, .ref vt, .ref vg, .ref vw, .ref ve, .ref vo, .ref vq, .int qd, .int pp, .int ct, .int sv])), (ru, .inr (6, [.ref la, .ref gr, .ref rk, .ref rs, .ref rt, .int tt, .int kg, .ref rv, .int vc2_102])), (la, .inr (1, [.int lg, .int lh, .int lt, .int lr, .int lc])), (gr, .inr (0, [.ref gt, .ref gg, .ref gn, .int gs, .int gm])), (gt, .inl (cI, 81, .inl tg)), (gn, .inl (cI, 324, .inl nb)), (nw, .inr (8, [.ref sf, .ref sh, .int tu])), (sf, .inl (cI, 40, .inl ff)), (sh, .inl (cI, 81, .inl fh)), (rk, .inl (cI, 40, .inl ck)), (rs, .inl (cI, 40, .inl fs)), (rt, .inl (cZ, 40, .inl ft)), (rv, .inl (cI, 4, .inl fv2_102)), (vp, .inl (cI, 40, .inl fp)), (vw, .inl (cI, LW, .inl wo)), (ve, .inl (cI, LW, .inl de))] := hD
          have hl : lv_has ls 10 [(8, .int r_113), (7, .int r_88), (6, .int t_20), (5, .int t_12), (4, .int t_3), (0, .ref so), (1, .ref nw), (2, .int p2), (3, .int p3)] := hl
          have hI : kp.toInt = 0 ∨ (0 ≤ r_113.toInt ∧ r_113.toInt < 2 * pp.toInt) := hI
          have hkp := hI
          refine lv_istore (lv' := [(9, .int kp), (8, .int r_113), (7, .int r_88), (6, .int t_20), (5, .int t_12), (4, .int t_3), (0, .ref so), (1, .ref nw), (2, .int p2), (3, .int p3)]) hx hb dX7_deepKept_155 hl (by decide) rfl (fun ls hl => ?_)
          refine lv_iload hx hb dX7_deepKept_157 (lv_at hl 0 rfl) ?_
          refine lv_if_eq (tgt := 172) hx hb dX7_deepKept_159 (by decide) (fun c_159 => ?_) (fun c_159 => ?_)
          · have d_159 := c_159
            simp only [kt_lt, kt_le, kt_eq, kt_c0, kt_c1, kt_c2, kt_c3, kt_c4, kt_c8, kt_c9, kt_cm1, kt_c81, kt_c40, kt_c7, kt_c5, kt_c6, kt_c512, kt_c10, kt_c10000] at d_159
            refine lv_iconst (v := (-1)) hx hb dX7_deepKept_172 (by decide) ?_
            exact kt_ri (vc2_102, fv2_102) hx hb hr hlk hS dX7_deepKept_173 hP hD (by show kt_r fv2_102 4 0 39 ∧ 0 ≤ vc2_102.toInt ∧ vc2_102.toInt ≤ 4; exact ⟨hrv, hvc⟩)
          · have d_159 := c_159
            simp only [kt_lt, kt_le, kt_eq, kt_c0, kt_c1, kt_c2, kt_c3, kt_c4, kt_c8, kt_c9, kt_cm1, kt_c81, kt_c40, kt_c7, kt_c5, kt_c6, kt_c512, kt_c10, kt_c10000] at d_159
            refine lv_aload_n hx hb dX7_deepKept_162 rfl (lv_at hl 6 rfl) ?_
            refine va_get (D := D) (ci := 7) (C := RX7) (T := TX7) (N := 15) hx hb hts iw_X7_deepKept_X7 hown hK hP 0 rfl rfl 8 (by decide) (hts (.fieldLink RX7 41 "KingTable$Solver" "deeps" "[I") (kt_wp_X7_deepKept__X7_deepKept_r1 kt_wm3)) (fun _ h9 => h9) rfl dX7_deepKept_163 ?_
            refine lv_iload hx hb dX7_deepKept_166 (lv_at hl 1 rfl) ?_
            have hi_2 : vp_in r_113 LW := by exact kt_in (by omega) (by omega)
            refine va_iald hx hb hK hP 15 0 rfl rfl hi_2 dX7_deepKept_168 ?_
            refine lv_topi (fun a_168 ea_168 => ?_)
            refine lv_goto (tgt := 173) hx hb dX7_deepKept_169 (by decide) ?_
            exact kt_ri (vc2_102, fv2_102) hx hb hr hlk hS dX7_deepKept_173 hP hD (by show kt_r fv2_102 4 0 39 ∧ 0 ≤ vc2_102.toInt ∧ vc2_102.toInt ≤ 4; exact ⟨hrv, hvc⟩)
        refine lv_if_lt (tgt := 154) hx hb dX7_deepKept_120 (by decide) (fun c_120 => ?_) (fun c_120 => ?_)
        · have d_120 := c_120
          simp only [kt_lt, kt_le, kt_eq, kt_c0, kt_c1, kt_c2, kt_c3, kt_c4, kt_c8, kt_c9, kt_cm1, kt_c81, kt_c40, kt_c7, kt_c5, kt_c6, kt_c512, kt_c10, kt_c10000] at d_120
          refine lv_iconst (v := 0) hx hb dX7_deepKept_154 (by decide) ?_
          exact j_155 (0 : Int32) (by show (0 : Int32).toInt = 0 ∨ (0 ≤ r_113.toInt ∧ r_113.toInt < 2 * pp.toInt); first | exact Or.inl (by decide) | exact Or.inr (by omega)) H _ hP hD hS ls (lv_sub hl [0, 1, 2, 3, 4, 5, 6, 7, 8] rfl)
        · have d_120 := c_120
          simp only [kt_lt, kt_le, kt_eq, kt_c0, kt_c1, kt_c2, kt_c3, kt_c4, kt_c8, kt_c9, kt_cm1, kt_c81, kt_c40, kt_c7, kt_c5, kt_c6, kt_c512, kt_c10, kt_c10000] at d_120
          refine lv_iload hx hb dX7_deepKept_123 (lv_at hl 0 rfl) ?_
          refine lv_iconst (v := 2) hx hb dX7_deepKept_125 (by decide) ?_
          refine lv_aload_n hx hb dX7_deepKept_126 rfl (lv_at hl 5 rfl) ?_
          refine va_get (D := D) (ci := 7) (C := RX7) (T := TX7) (N := 15) hx hb hts iw_X7_deepKept_X7 hown hK hP 0 rfl rfl 12 (by decide) (hts (.fieldLink RX7 66 "KingTable$Solver" "places" "I") (kt_wp_X7_deepKept__X7_deepKept_r1 kt_wm1)) (fun _ h9 => h9) rfl dX7_deepKept_127 ?_
          refine lv_imul hx hb dX7_deepKept_130 ?_
          refine lv_topi (fun t_130 et_130 => ?_)
          obtain ⟨k_130, hk_130, hm_130, hM_130⟩ := kt_mulk (C := 2) (et_130.trans (Int32.mul_comm _ _)) (by decide)
          try simp only [kt_c0, kt_c1, kt_c2, kt_c3, kt_c4, kt_c8, kt_c9, kt_cm1, kt_c81, kt_c40, kt_c7, kt_c5, kt_c6, kt_c512, kt_c10, kt_c10000] at hk_130
          refine lv_icmp_ge (tgt := 154) hx hb dX7_deepKept_131 (by decide) (fun c_131 => ?_) (fun c_131 => ?_)
          · have d_131 := c_131
            simp only [kt_lt, kt_le, kt_eq, kt_c0, kt_c1, kt_c2, kt_c3, kt_c4, kt_c8, kt_c9, kt_cm1, kt_c81, kt_c40, kt_c7, kt_c5, kt_c6, kt_c512, kt_c10, kt_c10000] at d_131
            refine lv_iconst (v := 0) hx hb dX7_deepKept_154 (by decide) ?_
            exact j_155 (0 : Int32) (by show (0 : Int32).toInt = 0 ∨ (0 ≤ r_113.toInt ∧ r_113.toInt < 2 * pp.toInt); first | exact Or.inl (by decide) | exact Or.inr (by omega)) H _ hP hD hS ls (lv_sub hl [0, 1, 2, 3, 4, 5, 6, 7, 8] rfl)
          · have d_131 := c_131
            simp only [kt_lt, kt_le, kt_eq, kt_c0, kt_c1, kt_c2, kt_c3, kt_c4, kt_c8, kt_c9, kt_cm1, kt_c81, kt_c40, kt_c7, kt_c5, kt_c6, kt_c512, kt_c10, kt_c10000] at d_131
            refine lv_aload_n hx hb dX7_deepKept_134 rfl (lv_at hl 5 rfl) ?_
            refine va_get (D := D) (ci := 7) (C := RX7) (T := TX7) (N := 15) hx hb hts iw_X7_deepKept_X7 hown hK hP 0 rfl rfl 7 (by decide) (hts (.fieldLink RX7 38 "KingTable$Solver" "worths" "[I") (kt_wp_X7_deepKept__X7_deepKept_r1 kt_wm2)) (fun _ h9 => h9) rfl dX7_deepKept_135 ?_
            refine lv_iload hx hb dX7_deepKept_138 (lv_at hl 0 rfl) ?_
            have hi_3 : vp_in r_113 LW := by exact kt_in (by omega) (by omega)
            refine va_iald hx hb hK hP 14 0 rfl rfl hi_3 dX7_deepKept_140 ?_
            refine lv_topi (fun a_140 ea_140 => ?_)
            have ra_140 := hwo.get hi_3
            rw [← ea_140] at ra_140
            refine lv_aload_n hx hb dX7_deepKept_141 rfl (lv_at hl 5 rfl) ?_
            refine va_get (D := D) (ci := 7) (C := RX7) (T := TX7) (N := 15) hx hb hts iw_X7_deepKept_X7 hown hK hP 0 rfl rfl 7 (by decide) (hts (.fieldLink RX7 38 "KingTable$Solver" "worths" "[I") (kt_wp_X7_deepKept__X7_deepKept_r1 kt_wm2)) (fun _ h9 => h9) rfl dX7_deepKept_142 ?_
            refine lv_iload_n hx hb dX7_deepKept_145 rfl (lv_at hl 7 rfl) ?_
            have hi_4 : vp_in p2 LW := by exact kt_in (by omega) (by omega)
            refine va_iald hx hb hK hP 14 0 rfl rfl hi_4 dX7_deepKept_146 ?_
            refine lv_topi (fun a_146 ea_146 => ?_)
            have ra_146 := hwo.get hi_4
            rw [← ea_146] at ra_146
            refine lv_icmp_ne (tgt := 154) hx hb dX7_deepKept_147 (by decide) (fun c_147 => ?_) (fun c_147 => ?_)
            · have d_147 := c_147
              simp only [kt_lt, kt_le, kt_eq, kt_c0, kt_c1, kt_c2, kt_c3, kt_c4, kt_c8, kt_c9, kt_cm1, kt_c81, kt_c40, kt_c7, kt_c5, kt_c6, kt_c512, kt_c10, kt_c10000] at d_147
              refine lv_iconst (v := 0) hx hb dX7_deepKept_154 (by decide) ?_
              exact j_155 (0 : Int32) (by show (0 : Int32).toInt = 0 ∨ (0 ≤ r_113.toInt ∧ r_113.toInt < 2 * pp.toInt); first | exact Or.inl (by decide) | exact Or.inr (by omega)) H _ hP hD hS ls (lv_sub hl [0, 1, 2, 3, 4, 5, 6, 7, 8] rfl)
            · have d_147 := c_147
              simp only [kt_lt, kt_le, kt_eq, kt_c0, kt_c1, kt_c2, kt_c3, kt_c4, kt_c8, kt_c9, kt_cm1, kt_c81, kt_c40, kt_c7, kt_c5, kt_c6, kt_c512, kt_c10, kt_c10000] at d_147
              refine lv_iconst (v := 1) hx hb dX7_deepKept_150 (by decide) ?_
              refine lv_goto (tgt := 155) hx hb dX7_deepKept_151 (by decide) ?_
              exact j_155 (1 : Int32) (by show (1 : Int32).toInt = 0 ∨ (0 ≤ r_113.toInt ∧ r_113.toInt < 2 * pp.toInt); first | exact Or.inl (by decide) | exact Or.inr (by omega)) H _ hP hD hS ls (lv_sub hl [0, 1, 2, 3, 4, 5, 6, 7, 8] rfl)
      · have d_66 := c_66
        simp only [kt_lt, kt_le, kt_eq, kt_c0, kt_c1, kt_c2, kt_c3, kt_c4, kt_c8, kt_c9, kt_cm1, kt_c81, kt_c40, kt_c7, kt_c5, kt_c6, kt_c512, kt_c10, kt_c10000] at d_66
        refine lv_iconst (v := (-1)) hx hb dX7_deepKept_69 (by decide) ?_
        exact kt_ri (vc, fv) hx hb hr hlk hS dX7_deepKept_70 hP hD (by show kt_r fv 4 0 39 ∧ 0 ≤ vc.toInt ∧ vc.toInt ≤ 4; exact ⟨hrv, hvc⟩)

set_option maxHeartbeats 4000000 in
set_option maxRecDepth 100000 in
theorem c_X7_indexOfE (l : Launch) (D : va_G) (cI cZ cB : ClassId) (sz : Nat) (so : Nat) (ru : Nat) (tr : Nat) (lk : Nat) (vp : Nat) (vd : Nat) (vt : Nat) (vg : Nat) (vw : Nat) (ve : Nat) (vo : Nat) (vq : Nat) (qd : Int32) (pp : Int32) (ct : Int32) (sv : Int32) (LW : Nat) (LH : Nat) (LS : Nat) (LQ : Nat) (la : Nat) (gr : Nat) (rk : Nat) (rs : Nat) (rt : Nat) (rv : Nat) (tt : Int32) (kg : Int32) (vc : Int32) (gt : Nat) (gg : Nat) (gn : Nat) (gs : Int32) (gm : Int32) (fp : Nat → Int32) (nw : Nat) (sf : Nat) (sh : Nat) (tu : Int32) (ff : Nat → Int32) (hlw : LW ≤ 10000) (hlh : LH ≤ 10000) (hls : LS ≤ 4000000) (hlq : LQ ≤ LW ∧ LQ ≤ LH) (hpp : 0 ≤ pp.toInt ∧ 2 * pp.toInt ≤ (LQ : Int)) (htt : 0 ≤ tt.toInt ∧ tt.toInt ≤ 40) (hff : kt_r ff 40 (-1) 80) (htu : 0 ≤ tu.toInt ∧ tu.toInt ≤ 1) : kt_Mi l yX7_indexOf wsX7_indexOf { frames := 1, cells := 0, slots := 0, locals := 21 } D (kt_ty cI cZ cB) [.ref so, .ref nw] sz [(so, .inr (7, [.ref ru, .ref tr, .ref lk, .ref vp, .ref vd, .ref vt, .ref vg, .ref vw, .ref ve, .ref vo, .ref vq, .int qd, .int pp, .int ct, .int sv])), (ru, .inr (6, [.ref la, .ref gr, .ref rk, .ref rs, .ref rt, .int tt, .int kg, .ref rv, .int vc])), (gr, .inr (0, [.ref gt, .ref gg, .ref gn, .int gs, .int gm])), (vp, .inl (cI, 40, .inl fp)), (nw, .inr (8, [.ref sf, .ref sh, .int tu])), (sf, .inl (cI, 40, .inl ff))] (fun (r : Int32) (u : Unit) => (-1 ≤ r.toInt ∧ r.toInt < 2 * pp.toInt ∨ r.toInt = -1) ∧ (¬ r.toInt = -1 → ¬ sv.toInt = 0)) (fun (u : Unit) => [(so, .inr (7, [.ref ru, .ref tr, .ref lk, .ref vp, .ref vd, .ref vt, .ref vg, .ref vw, .ref ve, .ref vo, .ref vq, .int qd, .int pp, .int ct, .int sv])), (ru, .inr (6, [.ref la, .ref gr, .ref rk, .ref rs, .ref rt, .int tt, .int kg, .ref rv, .int vc])), (gr, .inr (0, [.ref gt, .ref gg, .ref gn, .int gs, .int gm])), (vp, .inl (cI, 40, .inl fp)), (nw, .inr (8, [.ref sf, .ref sh, .int tu])), (sf, .inl (cI, 40, .inl ff))]) 0 0 := by
  refine kt_Mi.of (cc := cX7_indexOf) (maxL := 5) (ret := some .int) (by decide) rfl (Nat.le_of_ble_eq_true rfl) ?_
  intro p e s m below meth c A ls H hAt hP hD hS hl
  obtain ⟨hx, hb, hr, hml, hown, hts, hN, hK, hlk, hnm, hA⟩ := hAt
  have hl : lv_has ls 5 [(0, .ref so), (1, .ref nw)] := hl
  have hown : s.vm.findClass RX7 = some m.cls := hown
  refine lv_aload_n hx hb dX7_indexOf_0 rfl (lv_at hl 0 rfl) ?_
  refine va_get (D := D) (ci := 7) (C := RX7) (T := TX7) (N := 15) hx hb hts iw_X7_indexOf_X7 hown hK hP 0 rfl rfl 14 (by decide) (hts (.fieldLink RX7 54 "KingTable$Solver" "solved" "Z") (List.mem_cons_of_mem _ (List.mem_append_left _ (List.mem_append_left _ (List.mem_append_left _ (List.mem_append_left _ (List.Mem.head _))))))) (fun _ h9 => h9) rfl dX7_indexOf_1 ?_
  refine lv_if_ne (tgt := 9) hx hb dX7_indexOf_4 (by decide) (fun c_4 => ?_) (fun c_4 => ?_)
  · have d_4 := c_4
    simp only [kt_lt, kt_le, kt_eq, kt_c0, kt_c1, kt_c2, kt_c3, kt_c4, kt_c8, kt_c9, kt_cm1, kt_c81, kt_c40, kt_c7, kt_c5, kt_c6, kt_c512, kt_c10, kt_c10000] at d_4
    refine lv_iconst (v := 0) hx hb dX7_indexOf_9 (by decide) ?_
    refine lv_istore_n (lv' := [(2, .int 0), (0, .ref so), (1, .ref nw)]) hx hb dX7_indexOf_10 rfl hl (by decide) rfl (fun ls hl => ?_)
    refine lv_iconst (v := 0) hx hb dX7_indexOf_11 (by decide) ?_
    refine lv_istore_n (lv' := [(3, .int 0), (2, .int 0), (0, .ref so), (1, .ref nw)]) hx hb dX7_indexOf_12 rfl hl (by decide) rfl (fun ls hl => ?_)
    refine kt_loop (σ := Nat × Int32) 13 5 (fun u => [(so, .inr (7, [.ref ru, .ref tr, .ref lk, .ref vp, .ref vd, .ref vt, .ref vg, .ref vw, .ref ve, .ref vo, .ref vq, .int qd, .int pp, .int ct, .int sv])), (ru, .inr (6, [.ref la, .ref gr, .ref rk, .ref rs, .ref rt, .int tt, .int kg, .ref rv, .int vc])), (gr, .inr (0, [.ref gt, .ref gg, .ref gn, .int gs, .int gm])), (vp, .inl (cI, 40, .inl fp)), (nw, .inr (8, [.ref sf, .ref sh, .int tu])), (sf, .inl (cI, 40, .inl ff))]) (fun u => [(3, .int (nI u.1)), (2, .int u.2), (0, .ref so), (1, .ref nw)]) (fun n u => u.1 ≤ 40 ∧ 40 < u.1 + n) (fun u h => by omega) (fun n_13 ih_13 u hI H locs hP hD hS ls hl => ?_) (41) (0, (0 : Int32)) (by show 0 ≤ 40 ∧ 40 < 0 + 41; exact ⟨by decide, by decide⟩) hP hD hS (lv_sub hl [0, 1, 2, 3] rfl)
    obtain ⟨k, v⟩ := u
    have hP : va_P D vwCl [(so, .inr (7, [.ref ru, .ref tr, .ref lk, .ref vp, .ref vd, .ref vt, .ref vg, .ref vw, .ref ve, .ref vo, .ref vq, .int qd, .int pp, .int ct, .int sv])), (ru, .inr (6, [.ref la, .ref gr, .ref rk, .ref rs, .ref rt, .int tt, .int kg, .ref rv, .int vc])), (gr, .inr (0, [.ref gt, .ref gg, .ref gn, .int gs, .int gm])), (vp, .inl (cI, 40, .inl fp)), (nw, .inr (8, [.ref sf, .ref sh, .int tu])), (sf, .inl (cI, 40, .inl ff))] H := hP
    have hD : va_D A [(so, .inr (7, [.ref ru, .ref tr, .ref lk, .ref vp, .ref vd, .ref vt, .ref vg, .ref vw, .ref ve, .ref vo, .ref vq, .int qd, .int pp, .int ct, .int sv])), (ru, .inr (6, [.ref la, .ref gr, .ref rk, .ref rs, .ref rt, .int tt, .int kg, .ref rv, .int vc])), (gr, .inr (0, [.ref gt, .ref gg, .ref gn, .int gs, .int gm])), (vp, .inl (cI, 40, .inl fp)), (nw, .inr (8, [.ref sf, .ref sh, .int tu])), (sf, .inl (cI, 40, .inl ff))] := hD
    have hl : lv_has ls 5 [(3, .int (nI k)), (2, .int v), (0, .ref so), (1, .ref nw)] := hl
    have hI : k ≤ 40 ∧ 40 < k + (n_13 + 1) := hI
    have hk0 := kt_nI (n := k) (by omega)
    refine lv_iload_n hx hb dX7_indexOf_13 rfl (lv_at hl 0 rfl) ?_
    refine lv_aload_n hx hb dX7_indexOf_14 rfl (lv_at hl 2 rfl) ?_
    refine va_get (D := D) (ci := 7) (C := RX7) (T := TX7) (N := 15) hx hb hts iw_X7_indexOf_X7 hown hK hP 0 rfl rfl 0 (by decide) (hts (.fieldLink RX7 50 "KingTable$Solver" "rules" "LKingTable$Rules;") (List.mem_cons_of_mem _ (List.mem_append_left _ (List.mem_append_left _ (List.mem_append_left _ (List.mem_append_left _ (List.mem_cons_of_mem _ (List.Mem.head _)))))))) (fun _ h9 => h9) rfl dX7_indexOf_15 ?_
    refine va_getN (D := D) (ci := 6) (C := RX6) (T := TX6) (N := 9) hx hb hts iw_X7_indexOf_X6 hown hK hP 1 rfl rfl 5 (by decide) (va_Nw.use (w := .fieldLinkNest RX7 73 "KingTable$Rules" "total" "I" "KingTable") rfl (hN _ (by decide +kernel))) (fun _ h9 => h9) rfl dX7_indexOf_18 ?_
    refine lv_icmp_ge (tgt := 68) hx hb dX7_indexOf_21 (by decide) (fun c_21 => ?_) (fun c_21 => ?_)
    · have d_21 := c_21
      simp only [kt_lt, kt_le, kt_eq, kt_c0, kt_c1, kt_c2, kt_c3, kt_c4, kt_c8, kt_c9, kt_cm1, kt_c81, kt_c40, kt_c7, kt_c5, kt_c6, kt_c512, kt_c10, kt_c10000] at d_21
      refine lv_iconst (v := 2) hx hb dX7_indexOf_68 (by decide) ?_
      refine lv_iload_n hx hb dX7_indexOf_69 rfl (lv_at hl 1 rfl) ?_
      refine lv_imul hx hb dX7_indexOf_70 ?_
      refine lv_topi (fun t_70 et_70 => ?_)
      obtain ⟨k_70, hk_70, hm_70, hM_70⟩ := kt_mulk (C := 2) (et_70.trans (Int32.mul_comm _ _)) (by decide)
      try simp only [kt_c0, kt_c1, kt_c2, kt_c3, kt_c4, kt_c8, kt_c9, kt_cm1, kt_c81, kt_c40, kt_c7, kt_c5, kt_c6, kt_c512, kt_c10, kt_c10000] at hk_70
      refine lv_aload_n hx hb dX7_indexOf_71 rfl (lv_at hl 3 rfl) ?_
      refine va_getN (D := D) (ci := 8) (C := RX8) (T := TX8) (N := 3) hx hb hts iw_X7_indexOf_X8 hown hK hP 4 rfl rfl 2 (by decide) (va_Nw.use (w := .fieldLinkNest RX7 125 "KingTable$Stand" "turn" "I" "KingTable") rfl (hN _ (by decide +kernel))) (fun _ h9 => h9) rfl dX7_indexOf_72 ?_
      refine lv_iadd hx hb dX7_indexOf_75 ?_
      refine lv_topi (fun t_75 et_75 => ?_)
      first | have hk_75 := kt_addx et_75 (by first | omega | (simp only [kt_c0, kt_c1, kt_c2, kt_c3, kt_c4, kt_c8, kt_c9, kt_cm1, kt_c81, kt_c40, kt_c7, kt_c5, kt_c6, kt_c512, kt_c10, kt_c10000]; omega)) (by first | omega | (simp only [kt_c0, kt_c1, kt_c2, kt_c3, kt_c4, kt_c8, kt_c9, kt_cm1, kt_c81, kt_c40, kt_c7, kt_c5, kt_c6, kt_c512, kt_c10, kt_c10000]; omega)) | obtain ⟨k_75, hk_75, hm_75, hM_75⟩ := kt_addk et_75
      refine lv_istore_n (lv' := [(3, .int t_75), (2, .int v), (0, .ref so), (1, .ref nw)]) hx hb dX7_indexOf_76 rfl hl (by decide) rfl (fun ls hl => ?_)
      refine lv_iload_n hx hb dX7_indexOf_77 rfl (lv_at hl 0 rfl) ?_
      refine lv_if_lt (tgt := 95) hx hb dX7_indexOf_78 (by decide) (fun c_78 => ?_) (fun c_78 => ?_)
      · have d_78 := c_78
        simp only [kt_lt, kt_le, kt_eq, kt_c0, kt_c1, kt_c2, kt_c3, kt_c4, kt_c8, kt_c9, kt_cm1, kt_c81, kt_c40, kt_c7, kt_c5, kt_c6, kt_c512, kt_c10, kt_c10000] at d_78
        refine lv_iconst (v := (-1)) hx hb dX7_indexOf_95 (by decide) ?_
        exact kt_ri () hx hb hr hlk hS dX7_indexOf_96 hP hD (by show (-1 ≤ (-1 : Int32).toInt ∧ (-1 : Int32).toInt < 2 * pp.toInt ∨ (-1 : Int32).toInt = -1) ∧ (¬ (-1 : Int32).toInt = -1 → ¬ sv.toInt = 0); first | exact ⟨by omega, fun _ => by omega⟩ | exact ⟨Or.inr (by decide), fun h => absurd (by decide) h⟩)
      · have d_78 := c_78
        simp only [kt_lt, kt_le, kt_eq, kt_c0, kt_c1, kt_c2, kt_c3, kt_c4, kt_c8, kt_c9, kt_cm1, kt_c81, kt_c40, kt_c7, kt_c5, kt_c6, kt_c512, kt_c10, kt_c10000] at d_78
        refine lv_iload_n hx hb dX7_indexOf_81 rfl (lv_at hl 0 rfl) ?_
        refine lv_iconst (v := 2) hx hb dX7_indexOf_82 (by decide) ?_
        refine lv_aload_n hx hb dX7_indexOf_83 rfl (lv_at hl 2 rfl) ?_
        refine va_get (D := D) (ci := 7) (C := RX7) (T := TX7) (N := 15) hx hb hts iw_X7_indexOf_X7 hown hK hP 0 rfl rfl 12 (by decide) (hts (.fieldLink RX7 66 "KingTable$Solver" "places" "I") (List.mem_cons_of_mem _ (List.mem_append_left _ (List.mem_append_left _ (List.mem_append_left _ (List.mem_append_left _ (List.mem_cons_of_mem _ (List.mem_cons_of_mem _ (List.mem_cons_of_mem _ (List.Mem.head _)))))))))) (fun _ h9 => h9) rfl dX7_indexOf_84 ?_
        refine lv_imul hx hb dX7_indexOf_87 ?_
        refine lv_topi (fun t_87 et_87 => ?_)
        obtain ⟨k_87, hk_87, hm_87, hM_87⟩ := kt_mulk (C := 2) (et_87.trans (Int32.mul_comm _ _)) (by decide)
        try simp only [kt_c0, kt_c1, kt_c2, kt_c3, kt_c4, kt_c8, kt_c9, kt_cm1, kt_c81, kt_c40, kt_c7, kt_c5, kt_c6, kt_c512, kt_c10, kt_c10000] at hk_87
        refine lv_icmp_ge (tgt := 95) hx hb dX7_indexOf_88 (by decide) (fun c_88 => ?_) (fun c_88 => ?_)
        · have d_88 := c_88
          simp only [kt_lt, kt_le, kt_eq, kt_c0, kt_c1, kt_c2, kt_c3, kt_c4, kt_c8, kt_c9, kt_cm1, kt_c81, kt_c40, kt_c7, kt_c5, kt_c6, kt_c512, kt_c10, kt_c10000] at d_88
          refine lv_iconst (v := (-1)) hx hb dX7_indexOf_95 (by decide) ?_
          exact kt_ri () hx hb hr hlk hS dX7_indexOf_96 hP hD (by show (-1 ≤ (-1 : Int32).toInt ∧ (-1 : Int32).toInt < 2 * pp.toInt ∨ (-1 : Int32).toInt = -1) ∧ (¬ (-1 : Int32).toInt = -1 → ¬ sv.toInt = 0); first | exact ⟨by omega, fun _ => by omega⟩ | exact ⟨Or.inr (by decide), fun h => absurd (by decide) h⟩)
        · have d_88 := c_88
          simp only [kt_lt, kt_le, kt_eq, kt_c0, kt_c1, kt_c2, kt_c3, kt_c4, kt_c8, kt_c9, kt_cm1, kt_c81, kt_c40, kt_c7, kt_c5, kt_c6, kt_c512, kt_c10, kt_c10000] at d_88
          refine lv_iload_n hx hb dX7_indexOf_91 rfl (lv_at hl 0 rfl) ?_
          refine lv_goto (tgt := 96) hx hb dX7_indexOf_92 (by decide) ?_
          exact kt_ri () hx hb hr hlk hS dX7_indexOf_96 hP hD (by show (-1 ≤ t_75.toInt ∧ t_75.toInt < 2 * pp.toInt ∨ t_75.toInt = -1) ∧ (¬ t_75.toInt = -1 → ¬ sv.toInt = 0); first | exact ⟨by omega, fun _ => by omega⟩ | exact ⟨Or.inr (by decide), fun h => absurd (by decide) h⟩)
    · have d_21 := c_21
      simp only [kt_lt, kt_le, kt_eq, kt_c0, kt_c1, kt_c2, kt_c3, kt_c4, kt_c8, kt_c9, kt_cm1, kt_c81, kt_c40, kt_c7, kt_c5, kt_c6, kt_c512, kt_c10, kt_c10000] at d_21
      refine lv_aload_n hx hb dX7_indexOf_24 rfl (lv_at hl 3 rfl) ?_
      refine lv_iload_n hx hb dX7_indexOf_25 rfl (lv_at hl 0 rfl) ?_
      refine kt_pi (wc := [(nw, .inr (8, [.ref sf, .ref sh, .int tu])), (sf, .inl (cI, 40, .inl ff))]) [4, 5] hP hD hS hA rfl (by decide) (fun hPc hDc => va_runV (As := [.int (nI k)]) (rest := []) ⟨hx, hb, hml, hown, hts⟩ (c_X8_fieldOf l D cI cZ cB H.size nw sf sh tu ff (nI k) (by first | assumption | omega | rfl | decide)) (cwV 1 hts gX7_indexOf_X8_fieldOf rfl rfl rfl (by decide +kernel) ⟨Nat.le_of_ble_eq_true rfl, Nat.le_of_ble_eq_true rfl⟩) (kt_preV hN hK hPc hDc 0 (ci := 8) (q := (RX8, TX8, 3)) rfl rfl) rfl rfl hl.1 rfl (lv_room (Nat.le_of_ble_eq_true rfl)) dX7_indexOf_26 ⟨Nat.le_of_ble_eq_true rfl, Nat.le_of_ble_eq_true rfl⟩) (fun r_26 _ H locs hw_26 hP hS => ?_)
      refine lv_istore (lv' := [(4, .int r_26), (3, .int (nI k)), (2, .int v), (0, .ref so), (1, .ref nw)]) hx hb dX7_indexOf_29 hl (by decide) rfl (fun ls hl => ?_)
      refine lv_iload_n hx hb dX7_indexOf_31 rfl (lv_at hl 2 rfl) ?_
      refine lv_iload hx hb dX7_indexOf_32 (lv_at hl 0 rfl) ?_
      refine lv_iconst (v := (-1)) hx hb dX7_indexOf_34 (by decide) ?_
      refine kt_join (σ := Int32) 53 5 (fun u => [(so, .inr (7, [.ref ru, .ref tr, .ref lk, .ref vp, .ref vd, .ref vt, .ref vg, .ref vw, .ref ve, .ref vo, .ref vq, .int qd, .int pp, .int ct, .int sv])), (ru, .inr (6, [.ref la, .ref gr, .ref rk, .ref rs, .ref rt, .int tt, .int kg, .ref rv, .int vc])), (gr, .inr (0, [.ref gt, .ref gg, .ref gn, .int gs, .int gm])), (vp, .inl (cI, 40, .inl fp)), (nw, .inr (8, [.ref sf, .ref sh, .int tu])), (sf, .inl (cI, 40, .inl ff))]) (fun u => [(4, .int r_26), (3, .int (nI k)), (2, .int v), (0, .ref so), (1, .ref nw)]) (fun u => [.int u, .int v]) (fun u => True) (D := D) (A := A) (H0 := s.heap) (fun u hI H locs hP hD hS ls hl => ?_) (fun j_53 => ?_)
      · obtain ⟨fv_, rfl⟩ : ∃ z, z = u := ⟨_, rfl⟩
        have hP : va_P D vwCl [(so, .inr (7, [.ref ru, .ref tr, .ref lk, .ref vp, .ref vd, .ref vt, .ref vg, .ref vw, .ref ve, .ref vo, .ref vq, .int qd, .int pp, .int ct, .int sv])), (ru, .inr (6, [.ref la, .ref gr, .ref rk, .ref rs, .ref rt, .int tt, .int kg, .ref rv, .int vc])), (gr, .inr (0, [.ref gt, .ref gg, .ref gn, .int gs, .int gm])), (vp, .inl (cI, 40, .inl fp)), (nw, .inr (8, [.ref sf, .ref sh, .int tu])), (sf, .inl (cI, 40, .inl ff))] H := hP
        have hD : va_D A [(so, .inr (7, [.ref ru, .ref tr, .ref lk, .ref vp, .ref vd, .ref vt, .ref vg, .ref vw, .ref ve, .ref vo, .ref vq, .int qd, .int pp, .int ct, .int sv])), (ru, .inr (6, [.ref la, .ref gr, .ref rk, .ref rs, .ref rt, .int tt, .int kg, .ref rv, .int vc])), (gr, .inr (0, [.ref gt, .ref gg, .ref gn, .int gs, .int gm])), (vp, .inl (cI, 40, .inl fp)), (nw, .inr (8, [.ref sf, .ref sh, .int tu])), (sf, .inl (cI, 40, .inl ff))] := hD
        have hl : lv_has ls 5 [(4, .int r_26), (3, .int (nI k)), (2, .int v), (0, .ref so), (1, .ref nw)] := hl
        refine lv_aload_n hx hb dX7_indexOf_53 rfl (lv_at hl 3 rfl) ?_
        refine va_get (D := D) (ci := 7) (C := RX7) (T := TX7) (N := 15) hx hb hts iw_X7_indexOf_X7 hown hK hP 0 rfl rfl 3 (by decide) (hts (.fieldLink RX7 25 "KingTable$Solver" "powers" "[I") (List.mem_cons_of_mem _ (List.mem_append_left _ (List.mem_append_left _ (List.mem_append_left _ (List.mem_append_left _ (List.mem_cons_of_mem _ (List.mem_cons_of_mem _ (List.Mem.head _))))))))) (fun _ h9 => h9) rfl dX7_indexOf_54 ?_
        refine lv_iload_n hx hb dX7_indexOf_57 rfl (lv_at hl 1 rfl) ?_
        have hi_1 : vp_in (nI k) 40 := by exact kt_in (by omega) (by omega)
        refine va_iald hx hb hK hP 3 0 rfl rfl hi_1 dX7_indexOf_58 ?_
        refine lv_topi (fun a_58 ea_58 => ?_)
        refine lv_imul hx hb dX7_indexOf_59 ?_
        refine lv_topi (fun t_59 et_59 => ?_)
        obtain ⟨k_59, hk_59, hm_59, hM_59⟩ := kt_mulxk et_59
        refine lv_iadd hx hb dX7_indexOf_60 ?_
        refine lv_topi (fun t_60 et_60 => ?_)
        first | have hk_60 := kt_addx et_60 (by first | omega | (simp only [kt_c0, kt_c1, kt_c2, kt_c3, kt_c4, kt_c8, kt_c9, kt_cm1, kt_c81, kt_c40, kt_c7, kt_c5, kt_c6, kt_c512, kt_c10, kt_c10000]; omega)) (by first | omega | (simp only [kt_c0, kt_c1, kt_c2, kt_c3, kt_c4, kt_c8, kt_c9, kt_cm1, kt_c81, kt_c40, kt_c7, kt_c5, kt_c6, kt_c512, kt_c10, kt_c10000]; omega)) | obtain ⟨k_60, hk_60, hm_60, hM_60⟩ := kt_addk et_60
        refine lv_istore_n (lv' := [(2, .int t_60), (4, .int r_26), (3, .int (nI k)), (0, .ref so), (1, .ref nw)]) hx hb dX7_indexOf_61 rfl hl (by decide) rfl (fun ls hl => ?_)
        refine lv_iinc (v := nI (k + 1)) (lv' := [(3, .int (nI (k + 1))), (2, .int t_60), (4, .int r_26), (0, .ref so), (1, .ref nw)]) hx hb dX7_indexOf_62 hl (k := 2) rfl (nI_1 _) (by decide) rfl (fun ls hl => ?_)
        refine lv_goto (tgt := 13) hx hb dX7_indexOf_65 (by decide) ?_
        exact ih_13 ((k + 1), t_60) (by show (k + 1) ≤ 40 ∧ 40 < (k + 1) + n_13; omega) H _ hP hD hS ls (lv_sub hl [0, 1, 3, 4] rfl)
      refine lv_icmp_ne (tgt := 51) hx hb dX7_indexOf_35 (by decide) (fun c_35 => ?_) (fun c_35 => ?_)
      · have d_35 := c_35
        simp only [kt_lt, kt_le, kt_eq, kt_c0, kt_c1, kt_c2, kt_c3, kt_c4, kt_c8, kt_c9, kt_cm1, kt_c81, kt_c40, kt_c7, kt_c5, kt_c6, kt_c512, kt_c10, kt_c10000] at d_35
        refine lv_iload hx hb dX7_indexOf_51 (lv_at hl 0 rfl) ?_
        exact j_53 r_26 (by trivial) H _ hP hD hS ls (lv_sub hl [0, 1, 2, 3, 4] rfl)
      · have d_35 := c_35
        simp only [kt_lt, kt_le, kt_eq, kt_c0, kt_c1, kt_c2, kt_c3, kt_c4, kt_c8, kt_c9, kt_cm1, kt_c81, kt_c40, kt_c7, kt_c5, kt_c6, kt_c512, kt_c10, kt_c10000] at d_35
        refine lv_aload_n hx hb dX7_indexOf_38 rfl (lv_at hl 3 rfl) ?_
        refine va_get (D := D) (ci := 7) (C := RX7) (T := TX7) (N := 15) hx hb hts iw_X7_indexOf_X7 hown hK hP 0 rfl rfl 0 (by decide) (hts (.fieldLink RX7 50 "KingTable$Solver" "rules" "LKingTable$Rules;") (List.mem_cons_of_mem _ (List.mem_append_left _ (List.mem_append_left _ (List.mem_append_left _ (List.mem_append_left _ (List.mem_cons_of_mem _ (List.Mem.head _)))))))) (fun _ h9 => h9) rfl dX7_indexOf_39 ?_
        refine va_getN (D := D) (ci := 6) (C := RX6) (T := TX6) (N := 9) hx hb hts iw_X7_indexOf_X6 hown hK hP 1 rfl rfl 1 (by decide) (va_Nw.use (w := .fieldLinkNest RX7 78 "KingTable$Rules" "ground" "LKingTable$Ground;" "KingTable") rfl (hN _ (by decide +kernel))) (fun _ h9 => h9) rfl dX7_indexOf_42 ?_
        refine va_getN (D := D) (ci := 0) (C := RX0) (T := TX0) (N := 5) hx hb hts iw_X7_indexOf_X0 hown hK hP 2 rfl rfl 3 (by decide) (va_Nw.use (w := .fieldLinkNest RX7 115 "KingTable$Ground" "size" "I" "KingTable") rfl (hN _ (by decide +kernel))) (fun _ h9 => h9) rfl dX7_indexOf_45 ?_
        refine lv_goto (tgt := 53) hx hb dX7_indexOf_48 (by decide) ?_
        exact j_53 gs (by trivial) H _ hP hD hS ls (lv_sub hl [0, 1, 2, 3, 4] rfl)
  · have d_4 := c_4
    simp only [kt_lt, kt_le, kt_eq, kt_c0, kt_c1, kt_c2, kt_c3, kt_c4, kt_c8, kt_c9, kt_cm1, kt_c81, kt_c40, kt_c7, kt_c5, kt_c6, kt_c512, kt_c10, kt_c10000] at d_4
    refine lv_iconst (v := (-1)) hx hb dX7_indexOf_7 (by decide) ?_
    exact kt_ri () hx hb hr hlk hS dX7_indexOf_8 hP hD (by show (-1 ≤ (-1 : Int32).toInt ∧ (-1 : Int32).toInt < 2 * pp.toInt ∨ (-1 : Int32).toInt = -1) ∧ (¬ (-1 : Int32).toInt = -1 → ¬ sv.toInt = 0); first | exact ⟨by omega, fun _ => by omega⟩ | exact ⟨Or.inr (by decide), fun h => absurd (by decide) h⟩)

set_option maxHeartbeats 4000000 in
set_option maxRecDepth 100000 in
theorem c_X7_bestMoveE (l : Launch) (D : va_G) (cI cZ cB : ClassId) (sz : Nat) (so : Nat) (ru : Nat) (tr : Nat) (lk : Nat) (vp : Nat) (vd : Nat) (vt : Nat) (vg : Nat) (vw : Nat) (ve : Nat) (vo : Nat) (vq : Nat) (qd : Int32) (pp : Int32) (ct : Int32) (sv : Int32) (LW : Nat) (LH : Nat) (LS : Nat) (LQ : Nat) (la : Nat) (gr : Nat) (rk : Nat) (rs : Nat) (rt : Nat) (rv : Nat) (tt : Int32) (kg : Int32) (vc : Int32) (lg : Int32) (lh : Int32) (lt : Int32) (lr : Int32) (lc : Int32) (gt : Nat) (gg : Nat) (gn : Nat) (gs : Int32) (gm : Int32) (tg : Nat → Int32) (nb : Nat → Int32) (nw : Nat) (sf : Nat) (sh : Nat) (tu : Int32) (ff : Nat → Int32) (fh : Nat → Int32) (ck : Nat → Int32) (fs : Nat → Int32) (ft : Nat → Int32) (fv : Nat → Int32) (fp : Nat → Int32) (wo : Nat → Int32) (de : Nat → Int32) (w_ : Int) (L_ : Int) (P_ : Nat) (gl : Nat → Int32) (fk : Nat → Int32) (fr : Nat → Int32) (hlw : LW ≤ 10000) (hlh : LH ≤ 10000) (hls : LS ≤ 4000000) (hlq : LQ ≤ LW ∧ LQ ≤ LH) (hgs : 0 ≤ gs.toInt ∧ gs.toInt ≤ 81) (hgt : kt_r tg 81 0 2) (hnb : kt_r nb 324 (-1) 80) (hlr : 0 ≤ lr.toInt ∧ lr.toInt ≤ 8) (htt : 0 ≤ tt.toInt ∧ tt.toInt ≤ 40) (hkg : -1 ≤ kg.toInt ∧ kg.toInt ≤ 39) (hvc : 0 ≤ vc.toInt ∧ vc.toInt ≤ 4) (hff : kt_r ff 40 (-1) 80) (hfh : kt_r fh 81 (-1) 39) (htu : 0 ≤ tu.toInt ∧ tu.toInt ≤ 1) (hrk : kt_r ck 40 0 4) (hrs : kt_r fs 40 0 1) (hrt : kt_r ft 40 0 1) (hrv : kt_r fv 4 0 39) (hpp : 0 ≤ pp.toInt ∧ 2 * pp.toInt ≤ (LQ : Int)) (hwo : kt_r wo LW (-1) 2) (hpl0 : ¬ sv.toInt = 0 → kt_RX w_ L_ P_ tt kg gs lg lt tg gl nb fk fs ft fr ck ∧ kt_ST w_ L_ P_ ff fh) : kt_Mi l yX7_bestMove wsX7_bestMove { frames := 4, cells := 0, slots := 0, locals := 106 } D (kt_ty cI cZ cB) [.ref so, .ref nw] sz [(so, .inr (7, [.ref ru, .ref tr, .ref lk, .ref vp, .ref vd, .ref vt, .ref vg, .ref vw, .ref ve, .ref vo, .ref vq, .int qd, .int pp, .int ct, .int sv])), (ru, .inr (6, [.ref la, .ref gr, .ref rk, .ref rs, .ref rt, .int tt, .int kg, .ref rv, .int vc])), (la, .inr (1, [.int lg, .int lh, .int lt, .int lr, .int lc])), (gr, .inr (0, [.ref gt, .ref gg, .ref gn, .int gs, .int gm])), (gt, .inl (cI, 81, .inl tg)), (gn, .inl (cI, 324, .inl nb)), (nw, .inr (8, [.ref sf, .ref sh, .int tu])), (sf, .inl (cI, 40, .inl ff)), (sh, .inl (cI, 81, .inl fh)), (rk, .inl (cI, 40, .inl ck)), (rs, .inl (cI, 40, .inl fs)), (rt, .inl (cZ, 40, .inl ft)), (rv, .inl (cI, 4, .inl fv)), (vp, .inl (cI, 40, .inl fp)), (vw, .inl (cI, LW, .inl wo)), (ve, .inl (cI, LW, .inl de))] (fun (r : Int32) (u : Int32 × (Nat → Int32)) => kt_r u.2 4 0 39 ∧ 0 ≤ u.1.toInt ∧ u.1.toInt ≤ 4) (fun (u : Int32 × (Nat → Int32)) => [(so, .inr (7, [.ref ru, .ref tr, .ref lk, .ref vp, .ref vd, .ref vt, .ref vg, .ref vw, .ref ve, .ref vo, .ref vq, .int qd, .int pp, .int ct, .int sv])), (ru, .inr (6, [.ref la, .ref gr, .ref rk, .ref rs, .ref rt, .int tt, .int kg, .ref rv, .int u.1])), (la, .inr (1, [.int lg, .int lh, .int lt, .int lr, .int lc])), (gr, .inr (0, [.ref gt, .ref gg, .ref gn, .int gs, .int gm])), (gt, .inl (cI, 81, .inl tg)), (gn, .inl (cI, 324, .inl nb)), (nw, .inr (8, [.ref sf, .ref sh, .int tu])), (sf, .inl (cI, 40, .inl ff)), (sh, .inl (cI, 81, .inl fh)), (rk, .inl (cI, 40, .inl ck)), (rs, .inl (cI, 40, .inl fs)), (rt, .inl (cZ, 40, .inl ft)), (rv, .inl (cI, 4, .inl u.2)), (vp, .inl (cI, 40, .inl fp)), (vw, .inl (cI, LW, .inl wo)), (ve, .inl (cI, LW, .inl de))]) 0 0 := by
  refine kt_Mi.of (cc := cX7_bestMove) (maxL := 8) (ret := some .int) (by decide) rfl (Nat.le_of_ble_eq_true rfl) ?_
  intro p e s m below meth c A ls H hAt hP hD hS hl
  obtain ⟨hx, hb, hr, hml, hown, hts, hN, hK, hlk, hnm, hA⟩ := hAt
  have hl : lv_has ls 8 [(0, .ref so), (1, .ref nw)] := hl
  have hown : s.vm.findClass RX7 = some m.cls := hown
  refine lv_aload_n hx hb dX7_bestMove_0 rfl (lv_at hl 0 rfl) ?_
  refine lv_aload_n hx hb dX7_bestMove_1 rfl (lv_at hl 1 rfl) ?_
  refine kt_pi (wc := [(so, .inr (7, [.ref ru, .ref tr, .ref lk, .ref vp, .ref vd, .ref vt, .ref vg, .ref vw, .ref ve, .ref vo, .ref vq, .int qd, .int pp, .int ct, .int sv])), (ru, .inr (6, [.ref la, .ref gr, .ref rk, .ref rs, .ref rt, .int tt, .int kg, .ref rv, .int vc])), (gr, .inr (0, [.ref gt, .ref gg, .ref gn, .int gs, .int gm])), (vp, .inl (cI, 40, .inl fp)), (nw, .inr (8, [.ref sf, .ref sh, .int tu])), (sf, .inl (cI, 40, .inl ff))]) [0, 1, 3, 13, 6, 7] hP hD hS hA rfl (by decide) (fun hPc hDc => va_runV (As := [.ref nw]) (rest := []) ⟨hx, hb, hml, hown, hts⟩ (c_X7_indexOfE l D cI cZ cB H.size so ru tr lk vp vd vt vg vw ve vo vq qd pp ct sv LW LH LS LQ la gr rk rs rt rv tt kg vc gt gg gn gs gm fp nw sf sh tu ff hlw hlh hls hlq hpp htt hff htu) (cwV 1 hts gX7_bestMove_X7_indexOf rfl rfl rfl (by decide +kernel) ⟨Nat.le_of_ble_eq_true rfl, Nat.le_of_ble_eq_true rfl⟩) (kt_preV hN hK hPc hDc 0 (ci := 7) (q := (RX7, TX7, 15)) rfl rfl) rfl rfl hl.1 rfl (lv_room (Nat.le_of_ble_eq_true rfl)) dX7_bestMove_2 ⟨Nat.le_of_ble_eq_true rfl, Nat.le_of_ble_eq_true rfl⟩) (fun r_2 _ H locs hw_2 hP hS => ?_)
  obtain ⟨hix, hixs⟩ := hw_2
  refine lv_istore_n (lv' := [(2, .int r_2), (0, .ref so), (1, .ref nw)]) hx hb dX7_bestMove_5 rfl hl (by decide) rfl (fun ls hl => ?_)
  refine lv_iload_n hx hb dX7_bestMove_6 rfl (lv_at hl 0 rfl) ?_
  refine lv_iconst (v := (-1)) hx hb dX7_bestMove_7 (by decide) ?_
  refine lv_icmp_eq (tgt := 30) hx hb dX7_bestMove_8 (by decide) (fun c_8 => ?_) (fun c_8 => ?_)
  · have d_8 := c_8
    simp only [kt_lt, kt_le, kt_eq, kt_c0, kt_c1, kt_c2, kt_c3, kt_c4, kt_c8, kt_c9, kt_cm1, kt_c81, kt_c40, kt_c7, kt_c5, kt_c6, kt_c512, kt_c10, kt_c10000] at d_8
    refine lv_iconst (v := (-1)) hx hb dX7_bestMove_30 (by decide) ?_
    exact kt_ri (vc, fv) hx hb hr hlk hS dX7_bestMove_31 hP hD (by show kt_r fv 4 0 39 ∧ 0 ≤ vc.toInt ∧ vc.toInt ≤ 4; exact ⟨hrv, hvc⟩)
  · have d_8 := c_8
    simp only [kt_lt, kt_le, kt_eq, kt_c0, kt_c1, kt_c2, kt_c3, kt_c4, kt_c8, kt_c9, kt_cm1, kt_c81, kt_c40, kt_c7, kt_c5, kt_c6, kt_c512, kt_c10, kt_c10000] at d_8
    have hpl1 := hpl0 (hixs (by omega))
    refine lv_aload_n hx hb dX7_bestMove_11 rfl (lv_at hl 1 rfl) ?_
    refine va_get (D := D) (ci := 7) (C := RX7) (T := TX7) (N := 15) hx hb hts iw_X7_bestMove_X7 hown hK hP 0 rfl rfl 7 (by decide) (hts (.fieldLink RX7 38 "KingTable$Solver" "worths" "[I") (kt_wp_X7_bestMove__X7_bestMove_r1 kt_wm0)) (fun _ h9 => h9) rfl dX7_bestMove_12 ?_
    refine lv_iload_n hx hb dX7_bestMove_15 rfl (lv_at hl 0 rfl) ?_
    have hi_1 : vp_in r_2 LW := by exact kt_in (by omega) (by omega)
    refine va_iald hx hb hK hP 14 0 rfl rfl hi_1 dX7_bestMove_16 ?_
    refine lv_topi (fun a_16 ea_16 => ?_)
    have ra_16 := hwo.get hi_1
    rw [← ea_16] at ra_16
    refine lv_iconst (v := 2) hx hb dX7_bestMove_17 (by decide) ?_
    refine lv_icmp_eq (tgt := 32) hx hb dX7_bestMove_18 (by decide) (fun c_18 => ?_) (fun c_18 => ?_)
    · have d_18 := c_18
      simp only [kt_lt, kt_le, kt_eq, kt_c0, kt_c1, kt_c2, kt_c3, kt_c4, kt_c8, kt_c9, kt_cm1, kt_c81, kt_c40, kt_c7, kt_c5, kt_c6, kt_c512, kt_c10, kt_c10000] at d_18
      refine lv_iconst (v := (-1)) hx hb dX7_bestMove_32 (by decide) ?_
      refine lv_istore_n (lv' := [(3, .int (-1)), (2, .int r_2), (0, .ref so), (1, .ref nw)]) hx hb dX7_bestMove_33 rfl hl (by decide) rfl (fun ls hl => ?_)
      refine lv_iconst (v := (-1)) hx hb dX7_bestMove_34 (by decide) ?_
      refine lv_istore (lv' := [(4, .int (-1)), (3, .int (-1)), (2, .int r_2), (0, .ref so), (1, .ref nw)]) hx hb dX7_bestMove_35 hl (by decide) rfl (fun ls hl => ?_)
      refine lv_iconst (v := 0) hx hb dX7_bestMove_37 (by decide) ?_
      refine lv_istore (lv' := [(5, .int 0), (4, .int (-1)), (3, .int (-1)), (2, .int r_2), (0, .ref so), (1, .ref nw)]) hx hb dX7_bestMove_38 hl (by decide) rfl (fun ls hl => ?_)
      refine kt_loop (σ := Int32 × Int32 × Int32 × Int32 × (Nat → Int32)) 40 8 (fun u => [(so, .inr (7, [.ref ru, .ref tr, .ref lk, .ref vp, .ref vd, .ref vt, .ref vg, .ref vw, .ref ve, .ref vo, .ref vq, .int qd, .int pp, .int ct, .int sv])), (ru, .inr (6, [.ref la, .ref gr, .ref rk, .ref rs, .ref rt, .int tt, .int kg, .ref rv, .int u.2.2.2.1])), (la, .inr (1, [.int lg, .int lh, .int lt, .int lr, .int lc])), (gr, .inr (0, [.ref gt, .ref gg, .ref gn, .int gs, .int gm])), (gt, .inl (cI, 81, .inl tg)), (gn, .inl (cI, 324, .inl nb)), (nw, .inr (8, [.ref sf, .ref sh, .int tu])), (sf, .inl (cI, 40, .inl ff)), (sh, .inl (cI, 81, .inl fh)), (rk, .inl (cI, 40, .inl ck)), (rs, .inl (cI, 40, .inl fs)), (rt, .inl (cZ, 40, .inl ft)), (rv, .inl (cI, 4, .inl u.2.2.2.2)), (vp, .inl (cI, 40, .inl fp)), (vw, .inl (cI, LW, .inl wo)), (ve, .inl (cI, LW, .inl de))]) (fun u => [(5, .int u.1), (4, .int u.2.2.1), (3, .int u.2.1), (2, .int r_2), (0, .ref so), (1, .ref nw)]) (fun n u => (0 ≤ u.1.toInt ∧ u.1.toInt ≤ 1280 ∧ 1280 < u.1.toInt + n) ∧ kt_r u.2.2.2.2 4 0 39 ∧ 0 ≤ u.2.2.2.1.toInt ∧ u.2.2.2.1.toInt ≤ 4) (fun u h => by omega) (fun n_40 ih_40 u hI H locs hP hD hS ls hl => ?_) (1281) ((0 : Int32), (-1 : Int32), (-1 : Int32), vc, fv) (by show (0 ≤ (0 : Int32).toInt ∧ (0 : Int32).toInt ≤ 1280 ∧ 1280 < (0 : Int32).toInt + 1281) ∧ kt_r fv 4 0 39 ∧ 0 ≤ vc.toInt ∧ vc.toInt ≤ 4; exact ⟨by decide, hrv, hvc⟩) hP hD hS (lv_sub hl [0, 1, 2, 3, 4, 5] rfl)
      obtain ⟨mv, bs, bd, av, a3⟩ := u
      have hP : va_P D vwCl [(so, .inr (7, [.ref ru, .ref tr, .ref lk, .ref vp, .ref vd, .ref vt, .ref vg, .ref vw, .ref ve, .ref vo, .ref vq, .int qd, .int pp, .int ct, .int sv])), (ru, .inr (6, [.ref la, .ref gr, .ref rk, .ref rs, .ref rt, .int tt, .int kg, .ref rv, .int av])), (la, .inr (1, [.int lg, .int lh, .int lt, .int lr, .int lc])), (gr, .inr (0, [.ref gt, .ref gg, .ref gn, .int gs, .int gm])), (gt, .inl (cI, 81, .inl tg)), (gn, .inl (cI, 324, .inl nb)), (nw, .inr (8, [.ref sf, .ref sh, .int tu])), (sf, .inl (cI, 40, .inl ff)), (sh, .inl (cI, 81, .inl fh)), (rk, .inl (cI, 40, .inl ck)), (rs, .inl (cI, 40, .inl fs)), (rt, .inl (cZ, 40, .inl ft)), (rv, .inl (cI, 4, .inl a3)), (vp, .inl (cI, 40, .inl fp)), (vw, .inl (cI, LW, .inl wo)), (ve, .inl (cI, LW, .inl de))] H := hP
      have hD : va_D A [(so, .inr (7, [.ref ru, .ref tr, .ref lk, .ref vp, .ref vd, .ref vt, .ref vg, .ref vw, .ref ve, .ref vo, .ref vq, .int qd, .int pp, .int ct, .int sv])), (ru, .inr (6, [.ref la, .ref gr, .ref rk, .ref rs, .ref rt, .int tt, .int kg, .ref rv, .int av])), (la, .inr (1, [.int lg, .int lh, .int lt, .int lr, .int lc])), (gr, .inr (0, [.ref gt, .ref gg, .ref gn, .int gs, .int gm])), (gt, .inl (cI, 81, .inl tg)), (gn, .inl (cI, 324, .inl nb)), (nw, .inr (8, [.ref sf, .ref sh, .int tu])), (sf, .inl (cI, 40, .inl ff)), (sh, .inl (cI, 81, .inl fh)), (rk, .inl (cI, 40, .inl ck)), (rs, .inl (cI, 40, .inl fs)), (rt, .inl (cZ, 40, .inl ft)), (rv, .inl (cI, 4, .inl a3)), (vp, .inl (cI, 40, .inl fp)), (vw, .inl (cI, LW, .inl wo)), (ve, .inl (cI, LW, .inl de))] := hD
      have hl : lv_has ls 8 [(5, .int mv), (4, .int bd), (3, .int bs), (2, .int r_2), (0, .ref so), (1, .ref nw)] := hl
      have hI : (0 ≤ mv.toInt ∧ mv.toInt ≤ 1280 ∧ 1280 < mv.toInt + (n_40 + 1)) ∧ kt_r a3 4 0 39 ∧ 0 ≤ av.toInt ∧ av.toInt ≤ 4 := hI
      obtain ⟨hmb, hrv, hvc⟩ := hI
      refine lv_iload hx hb dX7_bestMove_40 (lv_at hl 0 rfl) ?_
      refine lv_bipush (v := 32) hx hb dX7_bestMove_42 (by decide) ?_
      refine lv_aload_n hx hb dX7_bestMove_44 rfl (lv_at hl 4 rfl) ?_
      refine va_get (D := D) (ci := 7) (C := RX7) (T := TX7) (N := 15) hx hb hts iw_X7_bestMove_X7 hown hK hP 0 rfl rfl 0 (by decide) (hts (.fieldLink RX7 50 "KingTable$Solver" "rules" "LKingTable$Rules;") (kt_wp_X7_bestMove__X7_bestMove_r1 kt_wm2)) (fun _ h9 => h9) rfl dX7_bestMove_45 ?_
      refine va_getN (D := D) (ci := 6) (C := RX6) (T := TX6) (N := 9) hx hb hts iw_X7_bestMove_X6 hown hK hP 1 rfl rfl 5 (by decide) (va_Nw.use (w := .fieldLinkNest RX7 73 "KingTable$Rules" "total" "I" "KingTable") rfl (hN _ (by decide +kernel))) (fun _ h9 => h9) rfl dX7_bestMove_48 ?_
      refine lv_imul hx hb dX7_bestMove_51 ?_
      refine lv_topi (fun t_51 et_51 => ?_)
      obtain ⟨k_51, hk_51, hm_51, hM_51⟩ := kt_mulk (C := 32) (et_51.trans (Int32.mul_comm _ _)) (by decide)
      try simp only [kt_c0, kt_c1, kt_c2, kt_c3, kt_c4, kt_c8, kt_c9, kt_cm1, kt_c81, kt_c40, kt_c7, kt_c5, kt_c6, kt_c512, kt_c10, kt_c10000] at hk_51
      refine lv_icmp_ge (tgt := 136) hx hb dX7_bestMove_52 (by decide) (fun c_52 => ?_) (fun c_52 => ?_)
      · have d_52 := c_52
        simp only [kt_lt, kt_le, kt_eq, kt_c0, kt_c1, kt_c2, kt_c3, kt_c4, kt_c8, kt_c9, kt_cm1, kt_c81, kt_c40, kt_c7, kt_c5, kt_c6, kt_c512, kt_c10, kt_c10000] at d_52
        refine lv_iload_n hx hb dX7_bestMove_136 rfl (lv_at hl 2 rfl) ?_
        exact kt_ri (av, a3) hx hb hr hlk hS dX7_bestMove_137 hP hD (by show kt_r a3 4 0 39 ∧ 0 ≤ av.toInt ∧ av.toInt ≤ 4; exact ⟨hrv, hvc⟩)
      · have d_52 := c_52
        simp only [kt_lt, kt_le, kt_eq, kt_c0, kt_c1, kt_c2, kt_c3, kt_c4, kt_c8, kt_c9, kt_cm1, kt_c81, kt_c40, kt_c7, kt_c5, kt_c6, kt_c512, kt_c10, kt_c10000] at d_52
        refine lv_aload_n hx hb dX7_bestMove_55 rfl (lv_at hl 4 rfl) ?_
        refine lv_aload_n hx hb dX7_bestMove_56 rfl (lv_at hl 5 rfl) ?_
        refine lv_iload_n hx hb dX7_bestMove_57 rfl (lv_at hl 3 rfl) ?_
        refine lv_iload hx hb dX7_bestMove_58 (lv_at hl 0 rfl) ?_
        refine kt_bi (wc := [(so, .inr (7, [.ref ru, .ref tr, .ref lk, .ref vp, .ref vd, .ref vt, .ref vg, .ref vw, .ref ve, .ref vo, .ref vq, .int qd, .int pp, .int ct, .int sv])), (ru, .inr (6, [.ref la, .ref gr, .ref rk, .ref rs, .ref rt, .int tt, .int kg, .ref rv, .int av])), (la, .inr (1, [.int lg, .int lh, .int lt, .int lr, .int lc])), (gr, .inr (0, [.ref gt, .ref gg, .ref gn, .int gs, .int gm])), (gt, .inl (cI, 81, .inl tg)), (gn, .inl (cI, 324, .inl nb)), (nw, .inr (8, [.ref sf, .ref sh, .int tu])), (sf, .inl (cI, 40, .inl ff)), (sh, .inl (cI, 81, .inl fh)), (rk, .inl (cI, 40, .inl ck)), (rs, .inl (cI, 40, .inl fs)), (rt, .inl (cZ, 40, .inl ft)), (rv, .inl (cI, 4, .inl a3)), (vp, .inl (cI, 40, .inl fp)), (vw, .inl (cI, LW, .inl wo)), (ve, .inl (cI, LW, .inl de))]) (wr := []) [0, 1, 2, 3, 4, 5, 6, 7, 8, 9, 10, 11, 12, 13, 14, 15] [] hP hD hS hA rfl rfl (by decide) (by decide) (by decide) (fun hPc hDc => va_runV (As := [.ref nw, .int r_2, .int mv]) (rest := []) ⟨hx, hb, hml, hown, hts⟩ (c_X7_deepKeptE l D cI cZ cB H.size so ru tr lk vp vd vt vg vw ve vo vq qd pp ct sv LW LH LS LQ la gr rk rs rt rv tt kg av lg lh lt lr lc gt gg gn gs gm tg nb nw sf sh tu ff fh ck fs ft a3 fp wo de w_ L_ P_ gl fk fr r_2 mv hlw hlh hls hlq hgs hgt hnb hlr htt hkg hvc hff hfh htu hrk hrs hrt hrv hpp hwo (by omega) hpl1.1 hpl1.2 (by omega)) (cwV 3 hts gX7_bestMove_X7_deepKept rfl rfl rfl (by decide +kernel) ⟨Nat.le_of_ble_eq_true rfl, Nat.le_of_ble_eq_true rfl⟩) (kt_preV hN hK hPc hDc 0 (ci := 7) (q := (RX7, TX7, 15)) rfl rfl) rfl rfl hl.1 rfl (lv_room (Nat.le_of_ble_eq_true rfl)) dX7_bestMove_60 ⟨Nat.le_of_ble_eq_true rfl, Nat.le_of_ble_eq_true rfl⟩) (fun r_60 u_ H locs hw_60 hP hD hS => ?_)
        obtain ⟨vc2_60, fv2_60⟩ := u_
        have hP : va_P D vwCl [(so, .inr (7, [.ref ru, .ref tr, .ref lk, .ref vp, .ref vd, .ref vt, .ref vg, .ref vw, .ref ve, .ref vo, .ref vq, .int qd, .int pp, .int ct, .int sv])), (ru, .inr (6, [.ref la, .ref gr, .ref rk, .ref rs, .ref rt, .int tt, .int kg, .ref rv, .int vc2_60])), (la, .inr (1, [.int lg, .int lh, .int lt, .int lr, .int lc])), (gr, .inr (0, [.ref gt, .ref gg, .ref gn, .int gs, .int gm])), (gt, .inl (cI, 81, .inl tg)), (gn, .inl (cI, 324, .inl nb)), (nw, .inr (8, [.ref sf, .ref sh, .int tu])), (sf, .inl (cI, 40, .inl ff)), (sh, .inl (cI, 81, .inl fh)), (rk, .inl (cI, 40, .inl ck)), (rs, .inl (cI, 40, .inl fs)), (rt, .inl (cZ, 40, .inl ft)), (rv, .inl (cI, 4, .inl fv2_60)), (vp, .inl (cI, 40, .inl fp)), (vw, .inl (cI, LW, .inl wo)), (ve, .inl (cI, LW, .inl de))] H := hP.sub [0, 1, 2, 3, 4, 5, 6, 7, 8, 9, 10, 11, 12, 13, 14, 15] rfl
        have hD : va_D A [(so, .inr (7, [.ref ru, .ref tr, .ref lk, .ref vp, .ref vd, .ref vt, .ref vg, .ref vw, .ref ve, .ref vo, .ref vq, .int qd, .int pp, .int ct, .int sv])), (ru, .inr (6, [.ref la, .ref gr, .ref rk, .ref rs, .ref rt, .int tt, .int kg, .ref rv, .int vc2_60])), (la, .inr (1, [.int lg, .int lh, .int lt, .int lr, .int lc])), (gr, .inr (0, [.ref gt, .ref gg, .ref gn, .int gs, .int gm])), (gt, .inl (cI, 81, .inl tg)), (gn, .inl (cI, 324, .inl nb)), (nw, .inr (8, [.ref sf, .ref sh, .int tu])), (sf, .inl (cI, 40, .inl ff)), (sh, .inl (cI, 81, .inl fh)), (rk, .inl (cI, 40, .inl ck)), (rs, .inl (cI, 40, .inl fs)), (rt, .inl (cZ, 40, .inl ft)), (rv, .inl (cI, 4, .inl fv2_60)), (vp, .inl (cI, 40, .inl fp)), (vw, .inl (cI, LW, .inl wo)), (ve, .inl (cI, LW, .inl de))] := hD.sub [0, 1, 2, 3, 4, 5, 6, 7, 8, 9, 10, 11, 12, 13, 14, 15] (by decide) rfl
        try dsimp only at hw_60
        obtain ⟨hrv, hvc⟩ := hw_60
        refine lv_istore (lv' := [(6, .int r_60), (5, .int mv), (4, .int bd), (3, .int bs), (2, .int r_2), (0, .ref so), (1, .ref nw)]) hx hb dX7_bestMove_63 hl (by decide) rfl (fun ls hl => ?_)
        refine lv_aload_n hx hb dX7_bestMove_65 rfl (lv_at hl 5 rfl) ?_
        refine va_get (D := D) (ci := 7) (C := RX7) (T := TX7) (N := 15) hx hb hts iw_X7_bestMove_X7 hown hK hP 0 rfl rfl 7 (by decide) (hts (.fieldLink RX7 38 "KingTable$Solver" "worths" "[I") (kt_wp_X7_bestMove__X7_bestMove_r1 kt_wm0)) (fun _ h9 => h9) rfl dX7_bestMove_66 ?_
        refine lv_iload_n hx hb dX7_bestMove_69 rfl (lv_at hl 4 rfl) ?_
        have hi_2 : vp_in r_2 LW := by exact kt_in (by omega) (by omega)
        refine va_iald hx hb hK hP 14 0 rfl rfl hi_2 dX7_bestMove_70 ?_
        refine lv_topi (fun a_70 ea_70 => ?_)
        have ra_70 := hwo.get hi_2
        rw [← ea_70] at ra_70
        refine lv_aload_n hx hb dX7_bestMove_71 rfl (lv_at hl 6 rfl) ?_
        refine va_getN (D := D) (ci := 8) (C := RX8) (T := TX8) (N := 3) hx hb hts iw_X7_bestMove_X8 hown hK hP 6 rfl rfl 2 (by decide) (va_Nw.use (w := .fieldLinkNest RX7 125 "KingTable$Stand" "turn" "I" "KingTable") rfl (hN _ (by decide +kernel))) (fun _ h9 => h9) rfl dX7_bestMove_72 ?_
        refine kt_join (σ := Int32) 105 8 (fun u => [(so, .inr (7, [.ref ru, .ref tr, .ref lk, .ref vp, .ref vd, .ref vt, .ref vg, .ref vw, .ref ve, .ref vo, .ref vq, .int qd, .int pp, .int ct, .int sv])), (ru, .inr (6, [.ref la, .ref gr, .ref rk, .ref rs, .ref rt, .int tt, .int kg, .ref rv, .int vc2_60])), (la, .inr (1, [.int lg, .int lh, .int lt, .int lr, .int lc])), (gr, .inr (0, [.ref gt, .ref gg, .ref gn, .int gs, .int gm])), (gt, .inl (cI, 81, .inl tg)), (gn, .inl (cI, 324, .inl nb)), (nw, .inr (8, [.ref sf, .ref sh, .int tu])), (sf, .inl (cI, 40, .inl ff)), (sh, .inl (cI, 81, .inl fh)), (rk, .inl (cI, 40, .inl ck)), (rs, .inl (cI, 40, .inl fs)), (rt, .inl (cZ, 40, .inl ft)), (rv, .inl (cI, 4, .inl fv2_60)), (vp, .inl (cI, 40, .inl fp)), (vw, .inl (cI, LW, .inl wo)), (ve, .inl (cI, LW, .inl de))]) (fun u => [(6, .int r_60), (5, .int mv), (4, .int bd), (3, .int bs), (2, .int r_2), (0, .ref so), (1, .ref nw)]) (fun u => [.int u]) (fun u => True) (D := D) (A := A) (H0 := s.heap) (fun u hI H locs hP hD hS ls hl => ?_) (fun j_105 => ?_)
        · obtain ⟨bt, rfl⟩ : ∃ z, z = u := ⟨_, rfl⟩
          have hP : va_P D vwCl [(so, .inr (7, [.ref ru, .ref tr, .ref lk, .ref vp, .ref vd, .ref vt, .ref vg, .ref vw, .ref ve, .ref vo, .ref vq, .int qd, .int pp, .int ct, .int sv])), (ru, .inr (6, [.ref la, .ref gr, .ref rk, .ref rs, .ref rt, .int tt, .int kg, .ref rv, .int vc2_60])), (la, .inr (1, [.int lg, .int lh, .int lt, .int lr, .int lc])), (gr, .inr (0, [.ref gt, .ref gg, .ref gn, .int gs, .int gm])), (gt, .inl (cI, 81, .inl tg)), (gn, .inl (cI, 324, .inl nb)), (nw, .inr (8, [.ref sf, .ref sh, .int tu])), (sf, .inl (cI, 40, .inl ff)), (sh, .inl (cI, 81, .inl fh)), (rk, .inl (cI, 40, .inl ck)), (rs, .inl (cI, 40, .inl fs)), (rt, .inl (cZ, 40, .inl ft)), (rv, .inl (cI, 4, .inl fv2_60)), (vp, .inl (cI, 40, .inl fp)), (vw, .inl (cI, LW, .inl wo)), (ve, .inl (cI, LW, .inl de))] H := hP
          have hD : va_D A [(so, .inr (7, [.ref ru, .ref tr, .ref lk, .ref vp, .ref vd, .ref vt, .ref vg, .ref vw, .ref ve, .ref vo, .ref vq, .int qd, .int pp, .int ct, .int sv])), (ru, .inr (6, [.ref la, .ref gr, .ref rk, .ref rs, .ref rt, .int tt, .int kg, .ref rv, .int vc2_60])), (la, .inr (1, [.int lg, .int lh, .int lt, .int lr, .int lc])), (gr, .inr (0, [.ref gt, .ref gg, .ref gn, .int gs, .int gm])), (gt, .inl (cI, 81, .inl tg)), (gn, .inl (cI, 324, .inl nb)), (nw, .inr (8, [.ref sf, .ref sh, .int tu])), (sf, .inl (cI, 40, .inl ff)), (sh, .inl (cI, 81, .inl fh)), (rk, .inl (cI, 40, .inl ck)), (rs, .inl (cI, 40, .inl fs)), (rt, .inl (cZ, 40, .inl ft)), (rv, .inl (cI, 4, .inl fv2_60)), (vp, .inl (cI, 40, .inl fp)), (vw, .inl (cI, LW, .inl wo)), (ve, .inl (cI, LW, .inl de))] := hD
          have hl : lv_has ls 8 [(6, .int r_60), (5, .int mv), (4, .int bd), (3, .int bs), (2, .int r_2), (0, .ref so), (1, .ref nw)] := hl
          refine lv_istore (lv' := [(7, .int bt), (6, .int r_60), (5, .int mv), (4, .int bd), (3, .int bs), (2, .int r_2), (0, .ref so), (1, .ref nw)]) hx hb dX7_bestMove_105 hl (by decide) rfl (fun ls hl => ?_)
          refine lv_iload hx hb dX7_bestMove_107 (lv_at hl 1 rfl) ?_
          refine lv_iconst (v := (-1)) hx hb dX7_bestMove_109 (by decide) ?_
          refine lv_icmp_eq (tgt := 130) hx hb dX7_bestMove_110 (by decide) (fun c_110 => ?_) (fun c_110 => ?_)
          · have d_110 := c_110
            simp only [kt_lt, kt_le, kt_eq, kt_c0, kt_c1, kt_c2, kt_c3, kt_c4, kt_c8, kt_c9, kt_cm1, kt_c81, kt_c40, kt_c7, kt_c5, kt_c6, kt_c512, kt_c10, kt_c10000] at d_110
            obtain ⟨t_130, et_130⟩ : ∃ y : Int32, y = mv + 1 := ⟨_, rfl⟩
            obtain ⟨k_130, hk_130, hm_130, hM_130⟩ := kt_addk et_130
            try simp only [kt_c0, kt_c1, kt_c2, kt_c3, kt_c4, kt_c8, kt_c9, kt_cm1, kt_c81, kt_c40, kt_c7, kt_c5, kt_c6, kt_c512, kt_c10, kt_c10000] at hk_130
            refine lv_iinc (v := t_130) (lv' := [(5, .int t_130), (7, .int bt), (6, .int r_60), (4, .int bd), (3, .int bs), (2, .int r_2), (0, .ref so), (1, .ref nw)]) hx hb dX7_bestMove_130 hl (k := 2) rfl (by rw [et_130]; rfl) (by decide) rfl (fun ls hl => ?_)
            refine lv_goto (tgt := 40) hx hb dX7_bestMove_133 (by decide) ?_
            exact ih_40 (t_130, bs, bd, vc2_60, fv2_60) (by show (0 ≤ t_130.toInt ∧ t_130.toInt ≤ 1280 ∧ 1280 < t_130.toInt + n_40) ∧ kt_r fv2_60 4 0 39 ∧ 0 ≤ vc2_60.toInt ∧ vc2_60.toInt ≤ 4; exact ⟨by omega, hrv, hvc⟩) H _ hP hD hS ls (lv_sub hl [0, 3, 4, 5, 6, 7] rfl)
          · have d_110 := c_110
            simp only [kt_lt, kt_le, kt_eq, kt_c0, kt_c1, kt_c2, kt_c3, kt_c4, kt_c8, kt_c9, kt_cm1, kt_c81, kt_c40, kt_c7, kt_c5, kt_c6, kt_c512, kt_c10, kt_c10000] at d_110
            refine lv_iload_n hx hb dX7_bestMove_113 rfl (lv_at hl 4 rfl) ?_
            refine lv_iconst (v := (-1)) hx hb dX7_bestMove_114 (by decide) ?_
            refine lv_icmp_eq (tgt := 123) hx hb dX7_bestMove_115 (by decide) (fun c_115 => ?_) (fun c_115 => ?_)
            · have d_115 := c_115
              simp only [kt_lt, kt_le, kt_eq, kt_c0, kt_c1, kt_c2, kt_c3, kt_c4, kt_c8, kt_c9, kt_cm1, kt_c81, kt_c40, kt_c7, kt_c5, kt_c6, kt_c512, kt_c10, kt_c10000] at d_115
              refine lv_iload hx hb dX7_bestMove_123 (lv_at hl 2 rfl) ?_
              refine lv_istore_n (lv' := [(3, .int mv), (7, .int bt), (6, .int r_60), (5, .int mv), (4, .int bd), (2, .int r_2), (0, .ref so), (1, .ref nw)]) hx hb dX7_bestMove_125 rfl hl (by decide) rfl (fun ls hl => ?_)
              refine lv_iload hx hb dX7_bestMove_126 (lv_at hl 2 rfl) ?_
              refine lv_istore (lv' := [(4, .int r_60), (3, .int mv), (7, .int bt), (6, .int r_60), (5, .int mv), (2, .int r_2), (0, .ref so), (1, .ref nw)]) hx hb dX7_bestMove_128 hl (by decide) rfl (fun ls hl => ?_)
              obtain ⟨t_130, et_130⟩ : ∃ y : Int32, y = mv + 1 := ⟨_, rfl⟩
              obtain ⟨k_130, hk_130, hm_130, hM_130⟩ := kt_addk et_130
              try simp only [kt_c0, kt_c1, kt_c2, kt_c3, kt_c4, kt_c8, kt_c9, kt_cm1, kt_c81, kt_c40, kt_c7, kt_c5, kt_c6, kt_c512, kt_c10, kt_c10000] at hk_130
              refine lv_iinc (v := t_130) (lv' := [(5, .int t_130), (4, .int r_60), (3, .int mv), (7, .int bt), (6, .int r_60), (2, .int r_2), (0, .ref so), (1, .ref nw)]) hx hb dX7_bestMove_130 hl (k := 4) rfl (by rw [et_130]; rfl) (by decide) rfl (fun ls hl => ?_)
              refine lv_goto (tgt := 40) hx hb dX7_bestMove_133 (by decide) ?_
              exact ih_40 (t_130, mv, r_60, vc2_60, fv2_60) (by show (0 ≤ t_130.toInt ∧ t_130.toInt ≤ 1280 ∧ 1280 < t_130.toInt + n_40) ∧ kt_r fv2_60 4 0 39 ∧ 0 ≤ vc2_60.toInt ∧ vc2_60.toInt ≤ 4; exact ⟨by omega, hrv, hvc⟩) H _ hP hD hS ls (lv_sub hl [0, 1, 2, 5, 6, 7] rfl)
            · have d_115 := c_115
              simp only [kt_lt, kt_le, kt_eq, kt_c0, kt_c1, kt_c2, kt_c3, kt_c4, kt_c8, kt_c9, kt_cm1, kt_c81, kt_c40, kt_c7, kt_c5, kt_c6, kt_c512, kt_c10, kt_c10000] at d_115
              refine lv_iload hx hb dX7_bestMove_118 (lv_at hl 0 rfl) ?_
              refine lv_if_eq (tgt := 130) hx hb dX7_bestMove_120 (by decide) (fun c_120 => ?_) (fun c_120 => ?_)
              · have d_120 := c_120
                simp only [kt_lt, kt_le, kt_eq, kt_c0, kt_c1, kt_c2, kt_c3, kt_c4, kt_c8, kt_c9, kt_cm1, kt_c81, kt_c40, kt_c7, kt_c5, kt_c6, kt_c512, kt_c10, kt_c10000] at d_120
                obtain ⟨t_130, et_130⟩ : ∃ y : Int32, y = mv + 1 := ⟨_, rfl⟩
                obtain ⟨k_130, hk_130, hm_130, hM_130⟩ := kt_addk et_130
                try simp only [kt_c0, kt_c1, kt_c2, kt_c3, kt_c4, kt_c8, kt_c9, kt_cm1, kt_c81, kt_c40, kt_c7, kt_c5, kt_c6, kt_c512, kt_c10, kt_c10000] at hk_130
                refine lv_iinc (v := t_130) (lv' := [(5, .int t_130), (7, .int bt), (6, .int r_60), (4, .int bd), (3, .int bs), (2, .int r_2), (0, .ref so), (1, .ref nw)]) hx hb dX7_bestMove_130 hl (k := 2) rfl (by rw [et_130]; rfl) (by decide) rfl (fun ls hl => ?_)
                refine lv_goto (tgt := 40) hx hb dX7_bestMove_133 (by decide) ?_
                exact ih_40 (t_130, bs, bd, vc2_60, fv2_60) (by show (0 ≤ t_130.toInt ∧ t_130.toInt ≤ 1280 ∧ 1280 < t_130.toInt + n_40) ∧ kt_r fv2_60 4 0 39 ∧ 0 ≤ vc2_60.toInt ∧ vc2_60.toInt ≤ 4; exact ⟨by omega, hrv, hvc⟩) H _ hP hD hS ls (lv_sub hl [0, 3, 4, 5, 6, 7] rfl)
              · have d_120 := c_120
                simp only [kt_lt, kt_le, kt_eq, kt_c0, kt_c1, kt_c2, kt_c3, kt_c4, kt_c8, kt_c9, kt_cm1, kt_c81, kt_c40, kt_c7, kt_c5, kt_c6, kt_c512, kt_c10, kt_c10000] at d_120
                refine lv_iload hx hb dX7_bestMove_123 (lv_at hl 2 rfl) ?_
                refine lv_istore_n (lv' := [(3, .int mv), (7, .int bt), (6, .int r_60), (5, .int mv), (4, .int bd), (2, .int r_2), (0, .ref so), (1, .ref nw)]) hx hb dX7_bestMove_125 rfl hl (by decide) rfl (fun ls hl => ?_)
                refine lv_iload hx hb dX7_bestMove_126 (lv_at hl 2 rfl) ?_
                refine lv_istore (lv' := [(4, .int r_60), (3, .int mv), (7, .int bt), (6, .int r_60), (5, .int mv), (2, .int r_2), (0, .ref so), (1, .ref nw)]) hx hb dX7_bestMove_128 hl (by decide) rfl (fun ls hl => ?_)
                obtain ⟨t_130, et_130⟩ : ∃ y : Int32, y = mv + 1 := ⟨_, rfl⟩
                obtain ⟨k_130, hk_130, hm_130, hM_130⟩ := kt_addk et_130
                try simp only [kt_c0, kt_c1, kt_c2, kt_c3, kt_c4, kt_c8, kt_c9, kt_cm1, kt_c81, kt_c40, kt_c7, kt_c5, kt_c6, kt_c512, kt_c10, kt_c10000] at hk_130
                refine lv_iinc (v := t_130) (lv' := [(5, .int t_130), (4, .int r_60), (3, .int mv), (7, .int bt), (6, .int r_60), (2, .int r_2), (0, .ref so), (1, .ref nw)]) hx hb dX7_bestMove_130 hl (k := 4) rfl (by rw [et_130]; rfl) (by decide) rfl (fun ls hl => ?_)
                refine lv_goto (tgt := 40) hx hb dX7_bestMove_133 (by decide) ?_
                exact ih_40 (t_130, mv, r_60, vc2_60, fv2_60) (by show (0 ≤ t_130.toInt ∧ t_130.toInt ≤ 1280 ∧ 1280 < t_130.toInt + n_40) ∧ kt_r fv2_60 4 0 39 ∧ 0 ≤ vc2_60.toInt ∧ vc2_60.toInt ≤ 4; exact ⟨by omega, hrv, hvc⟩) H _ hP hD hS ls (lv_sub hl [0, 1, 2, 5, 6, 7] rfl)
        refine lv_icmp_ne (tgt := 93) hx hb dX7_bestMove_75 (by decide) (fun c_75 => ?_) (fun c_75 => ?_)
        · have d_75 := c_75
          simp only [kt_lt, kt_le, kt_eq, kt_c0, kt_c1, kt_c2, kt_c3, kt_c4, kt_c8, kt_c9, kt_cm1, kt_c81, kt_c40, kt_c7, kt_c5, kt_c6, kt_c512, kt_c10, kt_c10000] at d_75
          refine lv_iload hx hb dX7_bestMove_93 (lv_at hl 0 rfl) ?_
          refine lv_iload hx hb dX7_bestMove_95 (lv_at hl 2 rfl) ?_
          refine lv_icmp_le (tgt := 104) hx hb dX7_bestMove_97 (by decide) (fun c_97 => ?_) (fun c_97 => ?_)
          · have d_97 := c_97
            simp only [kt_lt, kt_le, kt_eq, kt_c0, kt_c1, kt_c2, kt_c3, kt_c4, kt_c8, kt_c9, kt_cm1, kt_c81, kt_c40, kt_c7, kt_c5, kt_c6, kt_c512, kt_c10, kt_c10000] at d_97
            refine lv_iconst (v := 0) hx hb dX7_bestMove_104 (by decide) ?_
            exact j_105 (0 : Int32) (by trivial) H _ hP hD hS ls (lv_sub hl [0, 1, 2, 3, 4, 5, 6] rfl)
          · have d_97 := c_97
            simp only [kt_lt, kt_le, kt_eq, kt_c0, kt_c1, kt_c2, kt_c3, kt_c4, kt_c8, kt_c9, kt_cm1, kt_c81, kt_c40, kt_c7, kt_c5, kt_c6, kt_c512, kt_c10, kt_c10000] at d_97
            refine lv_iconst (v := 1) hx hb dX7_bestMove_100 (by decide) ?_
            refine lv_goto (tgt := 105) hx hb dX7_bestMove_101 (by decide) ?_
            exact j_105 (1 : Int32) (by trivial) H _ hP hD hS ls (lv_sub hl [0, 1, 2, 3, 4, 5, 6] rfl)
        · have d_75 := c_75
          simp only [kt_lt, kt_le, kt_eq, kt_c0, kt_c1, kt_c2, kt_c3, kt_c4, kt_c8, kt_c9, kt_cm1, kt_c81, kt_c40, kt_c7, kt_c5, kt_c6, kt_c512, kt_c10, kt_c10000] at d_75
          refine lv_iload hx hb dX7_bestMove_78 (lv_at hl 0 rfl) ?_
          refine lv_iload hx hb dX7_bestMove_80 (lv_at hl 2 rfl) ?_
          refine lv_icmp_ge (tgt := 89) hx hb dX7_bestMove_82 (by decide) (fun c_82 => ?_) (fun c_82 => ?_)
          · have d_82 := c_82
            simp only [kt_lt, kt_le, kt_eq, kt_c0, kt_c1, kt_c2, kt_c3, kt_c4, kt_c8, kt_c9, kt_cm1, kt_c81, kt_c40, kt_c7, kt_c5, kt_c6, kt_c512, kt_c10, kt_c10000] at d_82
            refine lv_iconst (v := 0) hx hb dX7_bestMove_89 (by decide) ?_
            refine lv_goto (tgt := 105) hx hb dX7_bestMove_90 (by decide) ?_
            exact j_105 (0 : Int32) (by trivial) H _ hP hD hS ls (lv_sub hl [0, 1, 2, 3, 4, 5, 6] rfl)
          · have d_82 := c_82
            simp only [kt_lt, kt_le, kt_eq, kt_c0, kt_c1, kt_c2, kt_c3, kt_c4, kt_c8, kt_c9, kt_cm1, kt_c81, kt_c40, kt_c7, kt_c5, kt_c6, kt_c512, kt_c10, kt_c10000] at d_82
            refine lv_iconst (v := 1) hx hb dX7_bestMove_85 (by decide) ?_
            refine lv_goto (tgt := 105) hx hb dX7_bestMove_86 (by decide) ?_
            exact j_105 (1 : Int32) (by trivial) H _ hP hD hS ls (lv_sub hl [0, 1, 2, 3, 4, 5, 6] rfl)
    · have d_18 := c_18
      simp only [kt_lt, kt_le, kt_eq, kt_c0, kt_c1, kt_c2, kt_c3, kt_c4, kt_c8, kt_c9, kt_cm1, kt_c81, kt_c40, kt_c7, kt_c5, kt_c6, kt_c512, kt_c10, kt_c10000] at d_18
      refine lv_aload_n hx hb dX7_bestMove_21 rfl (lv_at hl 1 rfl) ?_
      refine va_get (D := D) (ci := 7) (C := RX7) (T := TX7) (N := 15) hx hb hts iw_X7_bestMove_X7 hown hK hP 0 rfl rfl 8 (by decide) (hts (.fieldLink RX7 41 "KingTable$Solver" "deeps" "[I") (kt_wp_X7_bestMove__X7_bestMove_r1 kt_wm1)) (fun _ h9 => h9) rfl dX7_bestMove_22 ?_
      refine lv_iload_n hx hb dX7_bestMove_25 rfl (lv_at hl 0 rfl) ?_
      have hi_3 : vp_in r_2 LW := by exact kt_in (by omega) (by omega)
      refine va_iald hx hb hK hP 15 0 rfl rfl hi_3 dX7_bestMove_26 ?_
      refine lv_topi (fun a_26 ea_26 => ?_)
      refine lv_if_ne (tgt := 32) hx hb dX7_bestMove_27 (by decide) (fun c_27 => ?_) (fun c_27 => ?_)
      · have d_27 := c_27
        simp only [kt_lt, kt_le, kt_eq, kt_c0, kt_c1, kt_c2, kt_c3, kt_c4, kt_c8, kt_c9, kt_cm1, kt_c81, kt_c40, kt_c7, kt_c5, kt_c6, kt_c512, kt_c10, kt_c10000] at d_27
        refine lv_iconst (v := (-1)) hx hb dX7_bestMove_32 (by decide) ?_
        refine lv_istore_n (lv' := [(3, .int (-1)), (2, .int r_2), (0, .ref so), (1, .ref nw)]) hx hb dX7_bestMove_33 rfl hl (by decide) rfl (fun ls hl => ?_)
        refine lv_iconst (v := (-1)) hx hb dX7_bestMove_34 (by decide) ?_
        refine lv_istore (lv' := [(4, .int (-1)), (3, .int (-1)), (2, .int r_2), (0, .ref so), (1, .ref nw)]) hx hb dX7_bestMove_35 hl (by decide) rfl (fun ls hl => ?_)
        refine lv_iconst (v := 0) hx hb dX7_bestMove_37 (by decide) ?_
        refine lv_istore (lv' := [(5, .int 0), (4, .int (-1)), (3, .int (-1)), (2, .int r_2), (0, .ref so), (1, .ref nw)]) hx hb dX7_bestMove_38 hl (by decide) rfl (fun ls hl => ?_)
        refine kt_loop (σ := Int32 × Int32 × Int32 × Int32 × (Nat → Int32)) 40 8 (fun u => [(so, .inr (7, [.ref ru, .ref tr, .ref lk, .ref vp, .ref vd, .ref vt, .ref vg, .ref vw, .ref ve, .ref vo, .ref vq, .int qd, .int pp, .int ct, .int sv])), (ru, .inr (6, [.ref la, .ref gr, .ref rk, .ref rs, .ref rt, .int tt, .int kg, .ref rv, .int u.2.2.2.1])), (la, .inr (1, [.int lg, .int lh, .int lt, .int lr, .int lc])), (gr, .inr (0, [.ref gt, .ref gg, .ref gn, .int gs, .int gm])), (gt, .inl (cI, 81, .inl tg)), (gn, .inl (cI, 324, .inl nb)), (nw, .inr (8, [.ref sf, .ref sh, .int tu])), (sf, .inl (cI, 40, .inl ff)), (sh, .inl (cI, 81, .inl fh)), (rk, .inl (cI, 40, .inl ck)), (rs, .inl (cI, 40, .inl fs)), (rt, .inl (cZ, 40, .inl ft)), (rv, .inl (cI, 4, .inl u.2.2.2.2)), (vp, .inl (cI, 40, .inl fp)), (vw, .inl (cI, LW, .inl wo)), (ve, .inl (cI, LW, .inl de))]) (fun u => [(5, .int u.1), (4, .int u.2.2.1), (3, .int u.2.1), (2, .int r_2), (0, .ref so), (1, .ref nw)]) (fun n u => (0 ≤ u.1.toInt ∧ u.1.toInt ≤ 1280 ∧ 1280 < u.1.toInt + n) ∧ kt_r u.2.2.2.2 4 0 39 ∧ 0 ≤ u.2.2.2.1.toInt ∧ u.2.2.2.1.toInt ≤ 4) (fun u h => by omega) (fun n_40 ih_40 u hI H locs hP hD hS ls hl => ?_) (1281) ((0 : Int32), (-1 : Int32), (-1 : Int32), vc, fv) (by show (0 ≤ (0 : Int32).toInt ∧ (0 : Int32).toInt ≤ 1280 ∧ 1280 < (0 : Int32).toInt + 1281) ∧ kt_r fv 4 0 39 ∧ 0 ≤ vc.toInt ∧ vc.toInt ≤ 4; exact ⟨by decide, hrv, hvc⟩) hP hD hS (lv_sub hl [0, 1, 2, 3, 4, 5] rfl)
        obtain ⟨mv, bs, bd, av, a3⟩ := u
        have hP : va_P D vwCl [(so, .inr (7, [.ref ru, .ref tr, .ref lk, .ref vp, .ref vd, .ref vt, .ref vg, .ref vw, .ref ve, .ref vo, .ref vq, .int qd, .int pp, .int ct, .int sv])), (ru, .inr (6, [.ref la, .ref gr, .ref rk, .ref rs, .ref rt, .int tt, .int kg, .ref rv, .int av])), (la, .inr (1, [.int lg, .int lh, .int lt, .int lr, .int lc])), (gr, .inr (0, [.ref gt, .ref gg, .ref gn, .int gs, .int gm])), (gt, .inl (cI, 81, .inl tg)), (gn, .inl (cI, 324, .inl nb)), (nw, .inr (8, [.ref sf, .ref sh, .int tu])), (sf, .inl (cI, 40, .inl ff)), (sh, .inl (cI, 81, .inl fh)), (rk, .inl (cI, 40, .inl ck)), (rs, .inl (cI, 40, .inl fs)), (rt, .inl (cZ, 40, .inl ft)), (rv, .inl (cI, 4, .inl a3)), (vp, .inl (cI, 40, .inl fp)), (vw, .inl (cI, LW, .inl wo)), (ve, .inl (cI, LW, .inl de))] H := hP
        have hD : va_D A [(so, .inr (7, [.ref ru, .ref tr, .ref lk, .ref vp, .ref vd, .ref vt, .ref vg, .ref vw, .ref ve, .ref vo, .ref vq, .int qd, .int pp, .int ct, .int sv])), (ru, .inr (6, [.ref la, .ref gr, .ref rk, .ref rs, .ref rt, .int tt, .int kg, .ref rv, .int av])), (la, .inr (1, [.int lg, .int lh, .int lt, .int lr, .int lc])), (gr, .inr (0, [.ref gt, .ref gg, .ref gn, .int gs, .int gm])), (gt, .inl (cI, 81, .inl tg)), (gn, .inl (cI, 324, .inl nb)), (nw, .inr (8, [.ref sf, .ref sh, .int tu])), (sf, .inl (cI, 40, .inl ff)), (sh, .inl (cI, 81, .inl fh)), (rk, .inl (cI, 40, .inl ck)), (rs, .inl (cI, 40, .inl fs)), (rt, .inl (cZ, 40, .inl ft)), (rv, .inl (cI, 4, .inl a3)), (vp, .inl (cI, 40, .inl fp)), (vw, .inl (cI, LW, .inl wo)), (ve, .inl (cI, LW, .inl de))] := hD
        have hl : lv_has ls 8 [(5, .int mv), (4, .int bd), (3, .int bs), (2, .int r_2), (0, .ref so), (1, .ref nw)] := hl
        have hI : (0 ≤ mv.toInt ∧ mv.toInt ≤ 1280 ∧ 1280 < mv.toInt + (n_40 + 1)) ∧ kt_r a3 4 0 39 ∧ 0 ≤ av.toInt ∧ av.toInt ≤ 4 := hI
        obtain ⟨hmb, hrv, hvc⟩ := hI
        refine lv_iload hx hb dX7_bestMove_40 (lv_at hl 0 rfl) ?_
        refine lv_bipush (v := 32) hx hb dX7_bestMove_42 (by decide) ?_
        refine lv_aload_n hx hb dX7_bestMove_44 rfl (lv_at hl 4 rfl) ?_
        refine va_get (D := D) (ci := 7) (C := RX7) (T := TX7) (N := 15) hx hb hts iw_X7_bestMove_X7 hown hK hP 0 rfl rfl 0 (by decide) (hts (.fieldLink RX7 50 "KingTable$Solver" "rules" "LKingTable$Rules;") (kt_wp_X7_bestMove__X7_bestMove_r1 kt_wm2)) (fun _ h9 => h9) rfl dX7_bestMove_45 ?_
        refine va_getN (D := D) (ci := 6) (C := RX6) (T := TX6) (N := 9) hx hb hts iw_X7_bestMove_X6 hown hK hP 1 rfl rfl 5 (by decide) (va_Nw.use (w := .fieldLinkNest RX7 73 "KingTable$Rules" "total" "I" "KingTable") rfl (hN _ (by decide +kernel))) (fun _ h9 => h9) rfl dX7_bestMove_48 ?_
        refine lv_imul hx hb dX7_bestMove_51 ?_
        refine lv_topi (fun t_51 et_51 => ?_)
        obtain ⟨k_51, hk_51, hm_51, hM_51⟩ := kt_mulk (C := 32) (et_51.trans (Int32.mul_comm _ _)) (by decide)
        try simp only [kt_c0, kt_c1, kt_c2, kt_c3, kt_c4, kt_c8, kt_c9, kt_cm1, kt_c81, kt_c40, kt_c7, kt_c5, kt_c6, kt_c512, kt_c10, kt_c10000] at hk_51
        refine lv_icmp_ge (tgt := 136) hx hb dX7_bestMove_52 (by decide) (fun c_52 => ?_) (fun c_52 => ?_)
        · have d_52 := c_52
          simp only [kt_lt, kt_le, kt_eq, kt_c0, kt_c1, kt_c2, kt_c3, kt_c4, kt_c8, kt_c9, kt_cm1, kt_c81, kt_c40, kt_c7, kt_c5, kt_c6, kt_c512, kt_c10, kt_c10000] at d_52
          refine lv_iload_n hx hb dX7_bestMove_136 rfl (lv_at hl 2 rfl) ?_
          exact kt_ri (av, a3) hx hb hr hlk hS dX7_bestMove_137 hP hD (by show kt_r a3 4 0 39 ∧ 0 ≤ av.toInt ∧ av.toInt ≤ 4; exact ⟨hrv, hvc⟩)
        · have d_52 := c_52
          simp only [kt_lt, kt_le, kt_eq, kt_c0, kt_c1, kt_c2, kt_c3, kt_c4, kt_c8, kt_c9, kt_cm1, kt_c81, kt_c40, kt_c7, kt_c5, kt_c6, kt_c512, kt_c10, kt_c10000] at d_52
          refine lv_aload_n hx hb dX7_bestMove_55 rfl (lv_at hl 4 rfl) ?_
          refine lv_aload_n hx hb dX7_bestMove_56 rfl (lv_at hl 5 rfl) ?_
          refine lv_iload_n hx hb dX7_bestMove_57 rfl (lv_at hl 3 rfl) ?_
          refine lv_iload hx hb dX7_bestMove_58 (lv_at hl 0 rfl) ?_
          refine kt_bi (wc := [(so, .inr (7, [.ref ru, .ref tr, .ref lk, .ref vp, .ref vd, .ref vt, .ref vg, .ref vw, .ref ve, .ref vo, .ref vq, .int qd, .int pp, .int ct, .int sv])), (ru, .inr (6, [.ref la, .ref gr, .ref rk, .ref rs, .ref rt, .int tt, .int kg, .ref rv, .int av])), (la, .inr (1, [.int lg, .int lh, .int lt, .int lr, .int lc])), (gr, .inr (0, [.ref gt, .ref gg, .ref gn, .int gs, .int gm])), (gt, .inl (cI, 81, .inl tg)), (gn, .inl (cI, 324, .inl nb)), (nw, .inr (8, [.ref sf, .ref sh, .int tu])), (sf, .inl (cI, 40, .inl ff)), (sh, .inl (cI, 81, .inl fh)), (rk, .inl (cI, 40, .inl ck)), (rs, .inl (cI, 40, .inl fs)), (rt, .inl (cZ, 40, .inl ft)), (rv, .inl (cI, 4, .inl a3)), (vp, .inl (cI, 40, .inl fp)), (vw, .inl (cI, LW, .inl wo)), (ve, .inl (cI, LW, .inl de))]) (wr := []) [0, 1, 2, 3, 4, 5, 6, 7, 8, 9, 10, 11, 12, 13, 14, 15] [] hP hD hS hA rfl rfl (by decide) (by decide) (by decide) (fun hPc hDc => va_runV (As := [.ref nw, .int r_2, .int mv]) (rest := []) ⟨hx, hb, hml, hown, hts⟩ (c_X7_deepKeptE l D cI cZ cB H.size so ru tr lk vp vd vt vg vw ve vo vq qd pp ct sv LW LH LS LQ la gr rk rs rt rv tt kg av lg lh lt lr lc gt gg gn gs gm tg nb nw sf sh tu ff fh ck fs ft a3 fp wo de w_ L_ P_ gl fk fr r_2 mv hlw hlh hls hlq hgs hgt hnb hlr htt hkg hvc hff hfh htu hrk hrs hrt hrv hpp hwo (by omega) hpl1.1 hpl1.2 (by omega)) (cwV 3 hts gX7_bestMove_X7_deepKept rfl rfl rfl (by decide +kernel) ⟨Nat.le_of_ble_eq_true rfl, Nat.le_of_ble_eq_true rfl⟩) (kt_preV hN hK hPc hDc 0 (ci := 7) (q := (RX7, TX7, 15)) rfl rfl) rfl rfl hl.1 rfl (lv_room (Nat.le_of_ble_eq_true rfl)) dX7_bestMove_60 ⟨Nat.le_of_ble_eq_true rfl, Nat.le_of_ble_eq_true rfl⟩) (fun r_60 u_ H locs hw_60 hP hD hS => ?_)
          obtain ⟨vc2_60, fv2_60⟩ := u_
          have hP : va_P D vwCl [(so, .inr (7, [.ref ru, .ref tr, .ref lk, .ref vp, .ref vd, .ref vt, .ref vg, .ref vw, .ref ve, .ref vo, .ref vq, .int qd, .int pp, .int ct, .int sv])), (ru, .inr (6, [.ref la, .ref gr, .ref rk, .ref rs, .ref rt, .int tt, .int kg, .ref rv, .int vc2_60])), (la, .inr (1, [.int lg, .int lh, .int lt, .int lr, .int lc])), (gr, .inr (0, [.ref gt, .ref gg, .ref gn, .int gs, .int gm])), (gt, .inl (cI, 81, .inl tg)), (gn, .inl (cI, 324, .inl nb)), (nw, .inr (8, [.ref sf, .ref sh, .int tu])), (sf, .inl (cI, 40, .inl ff)), (sh, .inl (cI, 81, .inl fh)), (rk, .inl (cI, 40, .inl ck)), (rs, .inl (cI, 40, .inl fs)), (rt, .inl (cZ, 40, .inl ft)), (rv, .inl (cI, 4, .inl fv2_60)), (vp, .inl (cI, 40, .inl fp)), (vw, .inl (cI, LW, .inl wo)), (ve, .inl (cI, LW, .inl de))] H := hP.sub [0, 1, 2, 3, 4, 5, 6, 7, 8, 9, 10, 11, 12, 13, 14, 15] rfl
          have hD : va_D A [(so, .inr (7, [.ref ru, .ref tr, .ref lk, .ref vp, .ref vd, .ref vt, .ref vg, .ref vw, .ref ve, .ref vo, .ref vq, .int qd, .int pp, .int ct, .int sv])), (ru, .inr (6, [.ref la, .ref gr, .ref rk, .ref rs, .ref rt, .int tt, .int kg, .ref rv, .int vc2_60])), (la, .inr (1, [.int lg, .int lh, .int lt, .int lr, .int lc])), (gr, .inr (0, [.ref gt, .ref gg, .ref gn, .int gs, .int gm])), (gt, .inl (cI, 81, .inl tg)), (gn, .inl (cI, 324, .inl nb)), (nw, .inr (8, [.ref sf, .ref sh, .int tu])), (sf, .inl (cI, 40, .inl ff)), (sh, .inl (cI, 81, .inl fh)), (rk, .inl (cI, 40, .inl ck)), (rs, .inl (cI, 40, .inl fs)), (rt, .inl (cZ, 40, .inl ft)), (rv, .inl (cI, 4, .inl fv2_60)), (vp, .inl (cI, 40, .inl fp)), (vw, .inl (cI, LW, .inl wo)), (ve, .inl (cI, LW, .inl de))] := hD.sub [0, 1, 2, 3, 4, 5, 6, 7, 8, 9, 10, 11, 12, 13, 14, 15] (by decide) rfl
          try dsimp only at hw_60
          obtain ⟨hrv, hvc⟩ := hw_60
          refine lv_istore (lv' := [(6, .int r_60), (5, .int mv), (4, .int bd), (3, .int bs), (2, .int r_2), (0, .ref so), (1, .ref nw)]) hx hb dX7_bestMove_63 hl (by decide) rfl (fun ls hl => ?_)
          refine lv_aload_n hx hb dX7_bestMove_65 rfl (lv_at hl 5 rfl) ?_
          refine va_get (D := D) (ci := 7) (C := RX7) (T := TX7) (N := 15) hx hb hts iw_X7_bestMove_X7 hown hK hP 0 rfl rfl 7 (by decide) (hts (.fieldLink RX7 38 "KingTable$Solver" "worths" "[I") (kt_wp_X7_bestMove__X7_bestMove_r1 kt_wm0)) (fun _ h9 => h9) rfl dX7_bestMove_66 ?_
          refine lv_iload_n hx hb dX7_bestMove_69 rfl (lv_at hl 4 rfl) ?_
          have hi_4 : vp_in r_2 LW := by exact kt_in (by omega) (by omega)
          refine va_iald hx hb hK hP 14 0 rfl rfl hi_4 dX7_bestMove_70 ?_
          refine lv_topi (fun a_70 ea_70 => ?_)
          have ra_70 := hwo.get hi_4
          rw [← ea_70] at ra_70
          refine lv_aload_n hx hb dX7_bestMove_71 rfl (lv_at hl 6 rfl) ?_
          refine va_getN (D := D) (ci := 8) (C := RX8) (T := TX8) (N := 3) hx hb hts iw_X7_bestMove_X8 hown hK hP 6 rfl rfl 2 (by decide) (va_Nw.use (w := .fieldLinkNest RX7 125 "KingTable$Stand" "turn" "I" "KingTable") rfl (hN _ (by decide +kernel))) (fun _ h9 => h9) rfl dX7_bestMove_72 ?_
          refine kt_join (σ := Int32) 105 8 (fun u => [(so, .inr (7, [.ref ru, .ref tr, .ref lk, .ref vp, .ref vd, .ref vt, .ref vg, .ref vw, .ref ve, .ref vo, .ref vq, .int qd, .int pp, .int ct, .int sv])), (ru, .inr (6, [.ref la, .ref gr, .ref rk, .ref rs, .ref rt, .int tt, .int kg, .ref rv, .int vc2_60])), (la, .inr (1, [.int lg, .int lh, .int lt, .int lr, .int lc])), (gr, .inr (0, [.ref gt, .ref gg, .ref gn, .int gs, .int gm])), (gt, .inl (cI, 81, .inl tg)), (gn, .inl (cI, 324, .inl nb)), (nw, .inr (8, [.ref sf, .ref sh, .int tu])), (sf, .inl (cI, 40, .inl ff)), (sh, .inl (cI, 81, .inl fh)), (rk, .inl (cI, 40, .inl ck)), (rs, .inl (cI, 40, .inl fs)), (rt, .inl (cZ, 40, .inl ft)), (rv, .inl (cI, 4, .inl fv2_60)), (vp, .inl (cI, 40, .inl fp)), (vw, .inl (cI, LW, .inl wo)), (ve, .inl (cI, LW, .inl de))]) (fun u => [(6, .int r_60), (5, .int mv), (4, .int bd), (3, .int bs), (2, .int r_2), (0, .ref so), (1, .ref nw)]) (fun u => [.int u]) (fun u => True) (D := D) (A := A) (H0 := s.heap) (fun u hI H locs hP hD hS ls hl => ?_) (fun j_105 => ?_)
          · obtain ⟨bt, rfl⟩ : ∃ z, z = u := ⟨_, rfl⟩
            have hP : va_P D vwCl [(so, .inr (7, [.ref ru, .ref tr, .ref lk, .ref vp, .ref vd, .ref vt, .ref vg, .ref vw, .ref ve, .ref vo, .ref vq, .int qd, .int pp, .int ct, .int sv])), (ru, .inr (6, [.ref la, .ref gr, .ref rk, .ref rs, .ref rt, .int tt, .int kg, .ref rv, .int vc2_60])), (la, .inr (1, [.int lg, .int lh, .int lt, .int lr, .int lc])), (gr, .inr (0, [.ref gt, .ref gg, .ref gn, .int gs, .int gm])), (gt, .inl (cI, 81, .inl tg)), (gn, .inl (cI, 324, .inl nb)), (nw, .inr (8, [.ref sf, .ref sh, .int tu])), (sf, .inl (cI, 40, .inl ff)), (sh, .inl (cI, 81, .inl fh)), (rk, .inl (cI, 40, .inl ck)), (rs, .inl (cI, 40, .inl fs)), (rt, .inl (cZ, 40, .inl ft)), (rv, .inl (cI, 4, .inl fv2_60)), (vp, .inl (cI, 40, .inl fp)), (vw, .inl (cI, LW, .inl wo)), (ve, .inl (cI, LW, .inl de))] H := hP
            have hD : va_D A [(so, .inr (7, [.ref ru, .ref tr, .ref lk, .ref vp, .ref vd, .ref vt, .ref vg, .ref vw, .ref ve, .ref vo, .ref vq, .int qd, .int pp, .int ct, .int sv])), (ru, .inr (6, [.ref la, .ref gr, .ref rk, .ref rs, .ref rt, .int tt, .int kg, .ref rv, .int vc2_60])), (la, .inr (1, [.int lg, .int lh, .int lt, .int lr, .int lc])), (gr, .inr (0, [.ref gt, .ref gg, .ref gn, .int gs, .int gm])), (gt, .inl (cI, 81, .inl tg)), (gn, .inl (cI, 324, .inl nb)), (nw, .inr (8, [.ref sf, .ref sh, .int tu])), (sf, .inl (cI, 40, .inl ff)), (sh, .inl (cI, 81, .inl fh)), (rk, .inl (cI, 40, .inl ck)), (rs, .inl (cI, 40, .inl fs)), (rt, .inl (cZ, 40, .inl ft)), (rv, .inl (cI, 4, .inl fv2_60)), (vp, .inl (cI, 40, .inl fp)), (vw, .inl (cI, LW, .inl wo)), (ve, .inl (cI, LW, .inl de))] := hD
            have hl : lv_has ls 8 [(6, .int r_60), (5, .int mv), (4, .int bd), (3, .int bs), (2, .int r_2), (0, .ref so), (1, .ref nw)] := hl
            refine lv_istore (lv' := [(7, .int bt), (6, .int r_60), (5, .int mv), (4, .int bd), (3, .int bs), (2, .int r_2), (0, .ref so), (1, .ref nw)]) hx hb dX7_bestMove_105 hl (by decide) rfl (fun ls hl => ?_)
            refine lv_iload hx hb dX7_bestMove_107 (lv_at hl 1 rfl) ?_
            refine lv_iconst (v := (-1)) hx hb dX7_bestMove_109 (by decide) ?_
            refine lv_icmp_eq (tgt := 130) hx hb dX7_bestMove_110 (by decide) (fun c_110 => ?_) (fun c_110 => ?_)
            · have d_110 := c_110
              simp only [kt_lt, kt_le, kt_eq, kt_c0, kt_c1, kt_c2, kt_c3, kt_c4, kt_c8, kt_c9, kt_cm1, kt_c81, kt_c40, kt_c7, kt_c5, kt_c6, kt_c512, kt_c10, kt_c10000] at d_110
              obtain ⟨t_130, et_130⟩ : ∃ y : Int32, y = mv + 1 := ⟨_, rfl⟩
              obtain ⟨k_130, hk_130, hm_130, hM_130⟩ := kt_addk et_130
              try simp only [kt_c0, kt_c1, kt_c2, kt_c3, kt_c4, kt_c8, kt_c9, kt_cm1, kt_c81, kt_c40, kt_c7, kt_c5, kt_c6, kt_c512, kt_c10, kt_c10000] at hk_130
              refine lv_iinc (v := t_130) (lv' := [(5, .int t_130), (7, .int bt), (6, .int r_60), (4, .int bd), (3, .int bs), (2, .int r_2), (0, .ref so), (1, .ref nw)]) hx hb dX7_bestMove_130 hl (k := 2) rfl (by rw [et_130]; rfl) (by decide) rfl (fun ls hl => ?_)
              refine lv_goto (tgt := 40) hx hb dX7_bestMove_133 (by decide) ?_
              exact ih_40 (t_130, bs, bd, vc2_60, fv2_60) (by show (0 ≤ t_130.toInt ∧ t_130.toInt ≤ 1280 ∧ 1280 < t_130.toInt + n_40) ∧ kt_r fv2_60 4 0 39 ∧ 0 ≤ vc2_60.toInt ∧ vc2_60.toInt ≤ 4; exact ⟨by omega, hrv, hvc⟩) H _ hP hD hS ls (lv_sub hl [0, 3, 4, 5, 6, 7] rfl)
            · have d_110 := c_110
              simp only [kt_lt, kt_le, kt_eq, kt_c0, kt_c1, kt_c2, kt_c3, kt_c4, kt_c8, kt_c9, kt_cm1, kt_c81, kt_c40, kt_c7, kt_c5, kt_c6, kt_c512, kt_c10, kt_c10000] at d_110
              refine lv_iload_n hx hb dX7_bestMove_113 rfl (lv_at hl 4 rfl) ?_
              refine lv_iconst (v := (-1)) hx hb dX7_bestMove_114 (by decide) ?_
              refine lv_icmp_eq (tgt := 123) hx hb dX7_bestMove_115 (by decide) (fun c_115 => ?_) (fun c_115 => ?_)
              · have d_115 := c_115
                simp only [kt_lt, kt_le, kt_eq, kt_c0, kt_c1, kt_c2, kt_c3, kt_c4, kt_c8, kt_c9, kt_cm1, kt_c81, kt_c40, kt_c7, kt_c5, kt_c6, kt_c512, kt_c10, kt_c10000] at d_115
                refine lv_iload hx hb dX7_bestMove_123 (lv_at hl 2 rfl) ?_
                refine lv_istore_n (lv' := [(3, .int mv), (7, .int bt), (6, .int r_60), (5, .int mv), (4, .int bd), (2, .int r_2), (0, .ref so), (1, .ref nw)]) hx hb dX7_bestMove_125 rfl hl (by decide) rfl (fun ls hl => ?_)
                refine lv_iload hx hb dX7_bestMove_126 (lv_at hl 2 rfl) ?_
                refine lv_istore (lv' := [(4, .int r_60), (3, .int mv), (7, .int bt), (6, .int r_60), (5, .int mv), (2, .int r_2), (0, .ref so), (1, .ref nw)]) hx hb dX7_bestMove_128 hl (by decide) rfl (fun ls hl => ?_)
                obtain ⟨t_130, et_130⟩ : ∃ y : Int32, y = mv + 1 := ⟨_, rfl⟩
                obtain ⟨k_130, hk_130, hm_130, hM_130⟩ := kt_addk et_130
                try simp only [kt_c0, kt_c1, kt_c2, kt_c3, kt_c4, kt_c8, kt_c9, kt_cm1, kt_c81, kt_c40, kt_c7, kt_c5, kt_c6, kt_c512, kt_c10, kt_c10000] at hk_130
                refine lv_iinc (v := t_130) (lv' := [(5, .int t_130), (4, .int r_60), (3, .int mv), (7, .int bt), (6, .int r_60), (2, .int r_2), (0, .ref so), (1, .ref nw)]) hx hb dX7_bestMove_130 hl (k := 4) rfl (by rw [et_130]; rfl) (by decide) rfl (fun ls hl => ?_)
                refine lv_goto (tgt := 40) hx hb dX7_bestMove_133 (by decide) ?_
                exact ih_40 (t_130, mv, r_60, vc2_60, fv2_60) (by show (0 ≤ t_130.toInt ∧ t_130.toInt ≤ 1280 ∧ 1280 < t_130.toInt + n_40) ∧ kt_r fv2_60 4 0 39 ∧ 0 ≤ vc2_60.toInt ∧ vc2_60.toInt ≤ 4; exact ⟨by omega, hrv, hvc⟩) H _ hP hD hS ls (lv_sub hl [0, 1, 2, 5, 6, 7] rfl)
              · have d_115 := c_115
                simp only [kt_lt, kt_le, kt_eq, kt_c0, kt_c1, kt_c2, kt_c3, kt_c4, kt_c8, kt_c9, kt_cm1, kt_c81, kt_c40, kt_c7, kt_c5, kt_c6, kt_c512, kt_c10, kt_c10000] at d_115
                refine lv_iload hx hb dX7_bestMove_118 (lv_at hl 0 rfl) ?_
                refine lv_if_eq (tgt := 130) hx hb dX7_bestMove_120 (by decide) (fun c_120 => ?_) (fun c_120 => ?_)
                · have d_120 := c_120
                  simp only [kt_lt, kt_le, kt_eq, kt_c0, kt_c1, kt_c2, kt_c3, kt_c4, kt_c8, kt_c9, kt_cm1, kt_c81, kt_c40, kt_c7, kt_c5, kt_c6, kt_c512, kt_c10, kt_c10000] at d_120
                  obtain ⟨t_130, et_130⟩ : ∃ y : Int32, y = mv + 1 := ⟨_, rfl⟩
                  obtain ⟨k_130, hk_130, hm_130, hM_130⟩ := kt_addk et_130
                  try simp only [kt_c0, kt_c1, kt_c2, kt_c3, kt_c4, kt_c8, kt_c9, kt_cm1, kt_c81, kt_c40, kt_c7, kt_c5, kt_c6, kt_c512, kt_c10, kt_c10000] at hk_130
                  refine lv_iinc (v := t_130) (lv' := [(5, .int t_130), (7, .int bt), (6, .int r_60), (4, .int bd), (3, .int bs), (2, .int r_2), (0, .ref so), (1, .ref nw)]) hx hb dX7_bestMove_130 hl (k := 2) rfl (by rw [et_130]; rfl) (by decide) rfl (fun ls hl => ?_)
                  refine lv_goto (tgt := 40) hx hb dX7_bestMove_133 (by decide) ?_
                  exact ih_40 (t_130, bs, bd, vc2_60, fv2_60) (by show (0 ≤ t_130.toInt ∧ t_130.toInt ≤ 1280 ∧ 1280 < t_130.toInt + n_40) ∧ kt_r fv2_60 4 0 39 ∧ 0 ≤ vc2_60.toInt ∧ vc2_60.toInt ≤ 4; exact ⟨by omega, hrv, hvc⟩) H _ hP hD hS ls (lv_sub hl [0, 3, 4, 5, 6, 7] rfl)
                · have d_120 := c_120
                  simp only [kt_lt, kt_le, kt_eq, kt_c0, kt_c1, kt_c2, kt_c3, kt_c4, kt_c8, kt_c9, kt_cm1, kt_c81, kt_c40, kt_c7, kt_c5, kt_c6, kt_c512, kt_c10, kt_c10000] at d_120
                  refine lv_iload hx hb dX7_bestMove_123 (lv_at hl 2 rfl) ?_
                  refine lv_istore_n (lv' := [(3, .int mv), (7, .int bt), (6, .int r_60), (5, .int mv), (4, .int bd), (2, .int r_2), (0, .ref so), (1, .ref nw)]) hx hb dX7_bestMove_125 rfl hl (by decide) rfl (fun ls hl => ?_)
                  refine lv_iload hx hb dX7_bestMove_126 (lv_at hl 2 rfl) ?_
                  refine lv_istore (lv' := [(4, .int r_60), (3, .int mv), (7, .int bt), (6, .int r_60), (5, .int mv), (2, .int r_2), (0, .ref so), (1, .ref nw)]) hx hb dX7_bestMove_128 hl (by decide) rfl (fun ls hl => ?_)
                  obtain ⟨t_130, et_130⟩ : ∃ y : Int32, y = mv + 1 := ⟨_, rfl⟩
                  obtain ⟨k_130, hk_130, hm_130, hM_130⟩ := kt_addk et_130
                  try simp only [kt_c0, kt_c1, kt_c2, kt_c3, kt_c4, kt_c8, kt_c9, kt_cm1, kt_c81, kt_c40, kt_c7, kt_c5, kt_c6, kt_c512, kt_c10, kt_c10000] at hk_130
                  refine lv_iinc (v := t_130) (lv' := [(5, .int t_130), (4, .int r_60), (3, .int mv), (7, .int bt), (6, .int r_60), (2, .int r_2), (0, .ref so), (1, .ref nw)]) hx hb dX7_bestMove_130 hl (k := 4) rfl (by rw [et_130]; rfl) (by decide) rfl (fun ls hl => ?_)
                  refine lv_goto (tgt := 40) hx hb dX7_bestMove_133 (by decide) ?_
                  exact ih_40 (t_130, mv, r_60, vc2_60, fv2_60) (by show (0 ≤ t_130.toInt ∧ t_130.toInt ≤ 1280 ∧ 1280 < t_130.toInt + n_40) ∧ kt_r fv2_60 4 0 39 ∧ 0 ≤ vc2_60.toInt ∧ vc2_60.toInt ≤ 4; exact ⟨by omega, hrv, hvc⟩) H _ hP hD hS ls (lv_sub hl [0, 1, 2, 5, 6, 7] rfl)
          refine lv_icmp_ne (tgt := 93) hx hb dX7_bestMove_75 (by decide) (fun c_75 => ?_) (fun c_75 => ?_)
          · have d_75 := c_75
            simp only [kt_lt, kt_le, kt_eq, kt_c0, kt_c1, kt_c2, kt_c3, kt_c4, kt_c8, kt_c9, kt_cm1, kt_c81, kt_c40, kt_c7, kt_c5, kt_c6, kt_c512, kt_c10, kt_c10000] at d_75
            refine lv_iload hx hb dX7_bestMove_93 (lv_at hl 0 rfl) ?_
            refine lv_iload hx hb dX7_bestMove_95 (lv_at hl 2 rfl) ?_
            refine lv_icmp_le (tgt := 104) hx hb dX7_bestMove_97 (by decide) (fun c_97 => ?_) (fun c_97 => ?_)
            · have d_97 := c_97
              simp only [kt_lt, kt_le, kt_eq, kt_c0, kt_c1, kt_c2, kt_c3, kt_c4, kt_c8, kt_c9, kt_cm1, kt_c81, kt_c40, kt_c7, kt_c5, kt_c6, kt_c512, kt_c10, kt_c10000] at d_97
              refine lv_iconst (v := 0) hx hb dX7_bestMove_104 (by decide) ?_
              exact j_105 (0 : Int32) (by trivial) H _ hP hD hS ls (lv_sub hl [0, 1, 2, 3, 4, 5, 6] rfl)
            · have d_97 := c_97
              simp only [kt_lt, kt_le, kt_eq, kt_c0, kt_c1, kt_c2, kt_c3, kt_c4, kt_c8, kt_c9, kt_cm1, kt_c81, kt_c40, kt_c7, kt_c5, kt_c6, kt_c512, kt_c10, kt_c10000] at d_97
              refine lv_iconst (v := 1) hx hb dX7_bestMove_100 (by decide) ?_
              refine lv_goto (tgt := 105) hx hb dX7_bestMove_101 (by decide) ?_
              exact j_105 (1 : Int32) (by trivial) H _ hP hD hS ls (lv_sub hl [0, 1, 2, 3, 4, 5, 6] rfl)
          · have d_75 := c_75
            simp only [kt_lt, kt_le, kt_eq, kt_c0, kt_c1, kt_c2, kt_c3, kt_c4, kt_c8, kt_c9, kt_cm1, kt_c81, kt_c40, kt_c7, kt_c5, kt_c6, kt_c512, kt_c10, kt_c10000] at d_75
            refine lv_iload hx hb dX7_bestMove_78 (lv_at hl 0 rfl) ?_
            refine lv_iload hx hb dX7_bestMove_80 (lv_at hl 2 rfl) ?_
            refine lv_icmp_ge (tgt := 89) hx hb dX7_bestMove_82 (by decide) (fun c_82 => ?_) (fun c_82 => ?_)
            · have d_82 := c_82
              simp only [kt_lt, kt_le, kt_eq, kt_c0, kt_c1, kt_c2, kt_c3, kt_c4, kt_c8, kt_c9, kt_cm1, kt_c81, kt_c40, kt_c7, kt_c5, kt_c6, kt_c512, kt_c10, kt_c10000] at d_82
              refine lv_iconst (v := 0) hx hb dX7_bestMove_89 (by decide) ?_
              refine lv_goto (tgt := 105) hx hb dX7_bestMove_90 (by decide) ?_
              exact j_105 (0 : Int32) (by trivial) H _ hP hD hS ls (lv_sub hl [0, 1, 2, 3, 4, 5, 6] rfl)
            · have d_82 := c_82
              simp only [kt_lt, kt_le, kt_eq, kt_c0, kt_c1, kt_c2, kt_c3, kt_c4, kt_c8, kt_c9, kt_cm1, kt_c81, kt_c40, kt_c7, kt_c5, kt_c6, kt_c512, kt_c10, kt_c10000] at d_82
              refine lv_iconst (v := 1) hx hb dX7_bestMove_85 (by decide) ?_
              refine lv_goto (tgt := 105) hx hb dX7_bestMove_86 (by decide) ?_
              exact j_105 (1 : Int32) (by trivial) H _ hP hD hS ls (lv_sub hl [0, 1, 2, 3, 4, 5, 6] rfl)
      · have d_27 := c_27
        simp only [kt_lt, kt_le, kt_eq, kt_c0, kt_c1, kt_c2, kt_c3, kt_c4, kt_c8, kt_c9, kt_cm1, kt_c81, kt_c40, kt_c7, kt_c5, kt_c6, kt_c512, kt_c10, kt_c10000] at d_27
        refine lv_iconst (v := (-1)) hx hb dX7_bestMove_30 (by decide) ?_
        exact kt_ri (vc, fv) hx hb hr hlk hS dX7_bestMove_31 hP hD (by show kt_r fv 4 0 39 ∧ 0 ≤ vc.toInt ∧ vc.toInt ≤ 4; exact ⟨hrv, hvc⟩)

set_option maxHeartbeats 4000000 in
set_option maxRecDepth 100000 in
theorem c_X10_solveE (l : Launch) (D : va_G) (cI cZ cB : ClassId) (sz : Nat) (kt : Nat) (to : Nat) (la : Nat) (ru : Nat) (pl : Nat) (ho : Nat) (so : Nat) (st : Int32) (nw : Nat) (lo : Nat) (tr : Nat) (lk : Nat) (vp : Nat) (vd : Nat) (vt : Nat) (vg : Nat) (vw : Nat) (ve : Nat) (vo : Nat) (vq : Nat) (qd : Int32) (pp : Int32) (ct : Int32) (sv : Int32) (LW : Nat) (LH : Nat) (LS : Nat) (gr : Nat) (rk : Nat) (rs : Nat) (rt : Nat) (rv : Nat) (tt : Int32) (kg : Int32) (vc : Int32) (lg : Int32) (lh : Int32) (lt : Int32) (lr : Int32) (lc : Int32) (gt : Nat) (gg : Nat) (gn : Nat) (gs : Int32) (gm : Int32) (tg : Nat → Int32) (gl : Nat → Int32) (nb : Nat → Int32) (tf : Nat) (th : Nat) (tn : Int32) (xf : Nat → Int32) (xh : Nat → Int32) (fk : Nat → Int32) (fs : Nat → Int32) (ft : Nat → Int32) (fv : Nat → Int32) (fp : Nat → Int32) (fd : Nat → Int32) (ta : Nat → Int32) (ga : Nat → Int32) (kh : Nat) (ks : Nat) (kn : Nat) (us : Int32) (wo : Nat → Int32) (de : Nat → Int32) (op : Nat → Int32) (qu : Nat → Int32) (he : Nat → Int32) (sr : Nat → Int32) (ne : Nat → Int32) (hlw : LW ≤ 10000) (hlh : LH = LW) (hls : LS ≤ 118300) (hpp : 0 ≤ pp.toInt ∧ 2 * pp.toInt ≤ (LW : Int)) (hwo : kt_r wo LW (-1) 2) (hqu : kt_r qu LW 0 ((LW : Int) - 1)) (hsr : kt_r sr LS 0 ((LW : Int) - 1)) (hne : kt_r ne LS (-1) ((LS : Int) - 1)) (hgs : 0 ≤ gs.toInt ∧ gs.toInt ≤ 81) (hgt : kt_r tg 81 0 2) (hgg : kt_r gl 81 0 1) (hnb : kt_r nb 324 (-1) 80) (hlr : 0 ≤ lr.toInt ∧ lr.toInt ≤ 8) (htt : 0 ≤ tt.toInt ∧ tt.toInt ≤ 40) (hkg : -1 ≤ kg.toInt ∧ kg.toInt ≤ 39) (hvc : 0 ≤ vc.toInt ∧ vc.toInt ≤ 4) (hxf : kt_r xf 40 (-1) 80) (hxh : kt_r xh 81 (-1) 39) (htn : 0 ≤ tn.toInt ∧ tn.toInt ≤ 1) (hrk : kt_r fk 40 0 4) (hrs : kt_r fs 40 0 1) (hrt : kt_r ft 40 0 1) (hrv : kt_r fv 4 0 39) (hlk0 : ¬ st.toInt = 0 → ∀ PL : Int, kt_me (gs.toInt + 1) tt.toInt.toNat 1 = some PL → 0 ≤ PL * tt.toInt * gm.toInt ∧ PL * tt.toInt * gm.toInt ≤ 118300) : kt_Mi l yX10_solve wsX10_solve { frames := 6, cells := 7, slots := kt_cst st.toInt (kt_cost (kt_me (gs.toInt + 1) tt.toInt.toNat 1) sv.toInt LW LS tt.toInt gm.toInt), locals := 149 } D (kt_ty cI cZ cB) [.ref kt] sz [(kt, .inr (10, [.ref to, .ref la, .ref ru, .ref pl, .ref ho, .ref so])), (pl, .inr (4, [.ref la, .ref ru, .ref nw, .ref lo, .int st])), (so, .inr (7, [.ref ru, .ref tr, .ref lk, .ref vp, .ref vd, .ref vt, .ref vg, .ref vw, .ref ve, .ref vo, .ref vq, .int qd, .int pp, .int ct, .int sv])), (ru, .inr (6, [.ref la, .ref gr, .ref rk, .ref rs, .ref rt, .int tt, .int kg, .ref rv, .int vc])), (la, .inr (1, [.int lg, .int lh, .int lt, .int lr, .int lc])), (gr, .inr (0, [.ref gt, .ref gg, .ref gn, .int gs, .int gm])), (gt, .inl (cI, 81, .inl tg)), (gg, .inl (cZ, 81, .inl gl)), (gn, .inl (cI, 324, .inl nb)), (tr, .inr (8, [.ref tf, .ref th, .int tn])), (tf, .inl (cI, 40, .inl xf)), (th, .inl (cI, 81, .inl xh)), (rk, .inl (cI, 40, .inl fk)), (rs, .inl (cI, 40, .inl fs)), (rt, .inl (cZ, 40, .inl ft)), (rv, .inl (cI, 4, .inl fv)), (vp, .inl (cI, 40, .inl fp)), (vd, .inl (cI, 40, .inl fd)), (vt, .inl (cI, 6, .inl ta)), (vg, .inl (cI, 2, .inl ga)), (lk, .inr (2, [.ref kh, .ref ks, .ref kn, .int us])), (vw, .inl (cI, LW, .inl wo)), (ve, .inl (cI, LW, .inl de)), (vo, .inl (cI, LW, .inl op)), (vq, .inl (cI, LW, .inl qu)), (kh, .inl (cI, LH, .inl he)), (ks, .inl (cI, LS, .inl sr)), (kn, .inl (cI, LS, .inl ne))] (fun (r : Int32) (u : Nat × Nat × Nat × Nat × Nat × Nat × Nat × Nat × Nat × Nat × Int32 × Int32 × Int32 × Int32 × Int32 × Int32 × Int32 × (Nat → Int32) × (Nat → Int32) × (Nat → Int32) × (Nat → Int32) × (Nat → Int32) × (Nat → Int32) × (Nat → Int32) × (Nat → Int32) × (Nat → Int32) × (Nat → Int32) × (Nat → Int32) × (Nat → Int32) × (Nat → Int32) × (Nat → Int32)) => ((u.2.2.2.2.2.2.2.1 ≤ 10000 ∧ u.2.2.2.2.2.2.2.2.1 = u.2.2.2.2.2.2.2.1 ∧ u.2.2.2.2.2.2.2.2.2.1 ≤ 118300) ∧ (5 * kt_F 10000 LW + 2 * kt_F 118300 LS + kt_cst st.toInt (kt_cost (kt_me (gs.toInt + 1) tt.toInt.toNat 1) sv.toInt LW LS tt.toInt gm.toInt) ≤ 5 * kt_F 10000 u.2.2.2.2.2.2.2.1 + 2 * kt_F 118300 u.2.2.2.2.2.2.2.2.2.1) ∧ (0 ≤ u.2.2.2.2.2.2.2.2.2.2.2.1.toInt ∧ 2 * u.2.2.2.2.2.2.2.2.2.2.2.1.toInt ≤ (u.2.2.2.2.2.2.2.1 : Int)) ∧ kt_r u.2.2.2.2.2.2.2.2.2.2.2.2.2.2.2.2.2.1 u.2.2.2.2.2.2.2.1 (-1) 2 ∧ kt_r u.2.2.2.2.2.2.2.2.2.2.2.2.2.2.2.2.2.2.2.2.1 u.2.2.2.2.2.2.2.1 0 ((u.2.2.2.2.2.2.2.1 : Int) - 1) ∧ kt_r u.2.2.2.2.2.2.2.2.2.2.2.2.2.2.2.2.2.2.2.2.2.2.1 u.2.2.2.2.2.2.2.2.2.1 0 ((u.2.2.2.2.2.2.2.1 : Int) - 1) ∧ kt_r u.2.2.2.2.2.2.2.2.2.2.2.2.2.2.2.2.2.2.2.2.2.2.2.1 u.2.2.2.2.2.2.2.2.2.1 (-1) ((u.2.2.2.2.2.2.2.2.2.1 : Int) - 1) ∧ (0 ≤ u.2.2.2.2.2.2.2.2.2.2.2.2.2.2.1.toInt ∧ u.2.2.2.2.2.2.2.2.2.2.2.2.2.2.1.toInt ≤ 4) ∧ kt_r u.2.2.2.2.2.2.2.2.2.2.2.2.2.2.2.2.2.2.2.2.2.2.2.2.2.2.1 4 0 39 ∧ kt_r u.2.2.2.2.2.2.2.2.2.2.2.2.2.2.2.2.2.2.2.2.2.2.2.2.1 40 (-1) 80 ∧ kt_r u.2.2.2.2.2.2.2.2.2.2.2.2.2.2.2.2.2.2.2.2.2.2.2.2.2.1 81 (-1) 39 ∧ (0 ≤ u.2.2.2.2.2.2.2.2.2.2.2.2.2.2.2.2.1.toInt ∧ u.2.2.2.2.2.2.2.2.2.2.2.2.2.2.2.2.1.toInt ≤ 1)) ∧ (st.toInt = 0 → u.2.2.2.2.2.2.2.2.2.2.2.2.2.1 = sv)) (fun (u : Nat × Nat × Nat × Nat × Nat × Nat × Nat × Nat × Nat × Nat × Int32 × Int32 × Int32 × Int32 × Int32 × Int32 × Int32 × (Nat → Int32) × (Nat → Int32) × (Nat → Int32) × (Nat → Int32) × (Nat → Int32) × (Nat → Int32) × (Nat → Int32) × (Nat → Int32) × (Nat → Int32) × (Nat → Int32) × (Nat → Int32) × (Nat → Int32) × (Nat → Int32) × (Nat → Int32)) => [(kt, .inr (10, [.ref to, .ref la, .ref ru, .ref pl, .ref ho, .ref so])), (pl, .inr (4, [.ref la, .ref ru, .ref nw, .ref lo, .int st])), (so, .inr (7, [.ref ru, .ref tr, .ref lk, .ref vp, .ref vd, .ref vt, .ref vg, .ref u.1, .ref u.2.1, .ref u.2.2.1, .ref u.2.2.2.1, .int u.2.2.2.2.2.2.2.2.2.2.1, .int u.2.2.2.2.2.2.2.2.2.2.2.1, .int u.2.2.2.2.2.2.2.2.2.2.2.2.1, .int u.2.2.2.2.2.2.2.2.2.2.2.2.2.1])), (ru, .inr (6, [.ref la, .ref gr, .ref rk, .ref rs, .ref rt, .int tt, .int kg, .ref rv, .int u.2.2.2.2.2.2.2.2.2.2.2.2.2.2.1])), (la, .inr (1, [.int lg, .int lh, .int lt, .int lr, .int lc])), (gr, .inr (0, [.ref gt, .ref gg, .ref gn, .int gs, .int gm])), (gt, .inl (cI, 81, .inl tg)), (gg, .inl (cZ, 81, .inl gl)), (gn, .inl (cI, 324, .inl nb)), (tr, .inr (8, [.ref tf, .ref th, .int u.2.2.2.2.2.2.2.2.2.2.2.2.2.2.2.2.1])), (tf, .inl (cI, 40, .inl u.2.2.2.2.2.2.2.2.2.2.2.2.2.2.2.2.2.2.2.2.2.2.2.2.1)), (th, .inl (cI, 81, .inl u.2.2.2.2.2.2.2.2.2.2.2.2.2.2.2.2.2.2.2.2.2.2.2.2.2.1)), (rk, .inl (cI, 40, .inl fk)), (rs, .inl (cI, 40, .inl fs)), (rt, .inl (cZ, 40, .inl ft)), (rv, .inl (cI, 4, .inl u.2.2.2.2.2.2.2.2.2.2.2.2.2.2.2.2.2.2.2.2.2.2.2.2.2.2.1)), (vp, .inl (cI, 40, .inl u.2.2.2.2.2.2.2.2.2.2.2.2.2.2.2.2.2.2.2.2.2.2.2.2.2.2.2.1)), (vd, .inl (cI, 40, .inl u.2.2.2.2.2.2.2.2.2.2.2.2.2.2.2.2.2.2.2.2.2.2.2.2.2.2.2.2.1)), (vt, .inl (cI, 6, .inl u.2.2.2.2.2.2.2.2.2.2.2.2.2.2.2.2.2.2.2.2.2.2.2.2.2.2.2.2.2.1)), (vg, .inl (cI, 2, .inl u.2.2.2.2.2.2.2.2.2.2.2.2.2.2.2.2.2.2.2.2.2.2.2.2.2.2.2.2.2.2)), (lk, .inr (2, [.ref u.2.2.2.2.1, .ref u.2.2.2.2.2.1, .ref u.2.2.2.2.2.2.1, .int u.2.2.2.2.2.2.2.2.2.2.2.2.2.2.2.1])), (u.1, .inl (cI, u.2.2.2.2.2.2.2.1, .inl u.2.2.2.2.2.2.2.2.2.2.2.2.2.2.2.2.2.1)), (u.2.1, .inl (cI, u.2.2.2.2.2.2.2.1, .inl u.2.2.2.2.2.2.2.2.2.2.2.2.2.2.2.2.2.2.1)), (u.2.2.1, .inl (cI, u.2.2.2.2.2.2.2.1, .inl u.2.2.2.2.2.2.2.2.2.2.2.2.2.2.2.2.2.2.2.1)), (u.2.2.2.1, .inl (cI, u.2.2.2.2.2.2.2.1, .inl u.2.2.2.2.2.2.2.2.2.2.2.2.2.2.2.2.2.2.2.2.1)), (u.2.2.2.2.1, .inl (cI, u.2.2.2.2.2.2.2.2.1, .inl u.2.2.2.2.2.2.2.2.2.2.2.2.2.2.2.2.2.2.2.2.2.1)), (u.2.2.2.2.2.1, .inl (cI, u.2.2.2.2.2.2.2.2.2.1, .inl u.2.2.2.2.2.2.2.2.2.2.2.2.2.2.2.2.2.2.2.2.2.2.1)), (u.2.2.2.2.2.2.1, .inl (cI, u.2.2.2.2.2.2.2.2.2.1, .inl u.2.2.2.2.2.2.2.2.2.2.2.2.2.2.2.2.2.2.2.2.2.2.2.1))]) 7 (kt_cst st.toInt (kt_cost (kt_me (gs.toInt + 1) tt.toInt.toNat 1) sv.toInt LW LS tt.toInt gm.toInt)) := by
  refine kt_Mi.of (cc := cX10_solve) (maxL := 1) (ret := some .int) (by decide) rfl (Nat.le_of_ble_eq_true rfl) ?_
  intro p e s m below meth c A ls H hAt hP hD hS hl
  obtain ⟨hx, hb, hr, hml, hown, hts, hN, hK, hlk, hnm, hA⟩ := hAt
  have hl : lv_has ls 1 [(0, .ref kt)] := hl
  have hown : s.vm.findClass RX10 = some m.cls := hown
  refine lv_aload_n hx hb dX10_solve_0 rfl (lv_at hl 0 rfl) ?_
  refine va_get (D := D) (ci := 10) (C := RX10) (T := TX10) (N := 6) hx hb hts iw_X10_solve_X10 hown hK hP 0 rfl rfl 3 (by decide) (hts (.fieldLink RX10 37 "KingTable" "play" "LKingTable$Play;") (kt_wp_X10_solve__X10_solve_r1 kt_wm0)) (fun _ h9 => h9) rfl dX10_solve_1 ?_
  refine kt_pi (wc := [(pl, .inr (4, [.ref la, .ref ru, .ref nw, .ref lo, .int st]))]) [1] hP hD hS hA rfl (by decide) (fun hPc hDc => va_runV (As := []) (rest := []) ⟨hx, hb, hml, hown, hts⟩ (c_X4_isThere l D cI cZ cB H.size pl la ru nw lo st ) (cwV 0 hts gX10_solve_X4_isThere rfl rfl rfl (by decide +kernel) ⟨Nat.le_of_ble_eq_true rfl, Nat.le_of_ble_eq_true rfl⟩) (kt_preV hN hK hPc hDc 0 (ci := 4) (q := (RX4, TX4, 5)) rfl rfl) rfl rfl hl.1 rfl (lv_room (Nat.le_of_ble_eq_true rfl)) dX10_solve_4 ⟨by show 0 + 0 ≤ 7; omega, by show 0 + 0 ≤ kt_cst st.toInt (kt_cost (kt_me (gs.toInt + 1) tt.toInt.toNat 1) sv.toInt LW LS tt.toInt gm.toInt); omega⟩) (fun r_4 _ H locs hw_4 hP hS => ?_)
  refine lv_if_eq (tgt := 20) hx hb dX10_solve_7 (by decide) (fun c_7 => ?_) (fun c_7 => ?_)
  · have d_7 := c_7
    simp only [kt_lt, kt_le, kt_eq, kt_c0, kt_c1, kt_c2, kt_c3, kt_c4, kt_c8, kt_c9, kt_cm1, kt_c81, kt_c40, kt_c7, kt_c5, kt_c6, kt_c512, kt_c10, kt_c10000] at d_7
    have hcp : kt_cst st.toInt (kt_cost (kt_me (gs.toInt + 1) tt.toInt.toNat 1) sv.toInt LW LS tt.toInt gm.toInt) = 0 := if_pos (by have := hw_4.f c_7; omega)
    refine lv_iconst (v := (-1)) hx hb dX10_solve_20 (by decide) ?_
    refine W.widen (k := 7) (n := kt_cst st.toInt (kt_cost (kt_me (gs.toInt + 1) tt.toInt.toNat 1) sv.toInt LW LS tt.toInt gm.toInt)) (by show 0 ≤ 7; omega) (by show 0 ≤ kt_cst st.toInt (kt_cost (kt_me (gs.toInt + 1) tt.toInt.toNat 1) sv.toInt LW LS tt.toInt gm.toInt); omega) ?_
    exact kt_ri (vw, ve, vo, vq, kh, ks, kn, LW, LH, LS, qd, pp, ct, sv, vc, us, tn, wo, de, op, qu, he, sr, ne, xf, xh, fv, fp, fd, ta, ga) hx hb hr hlk hS dX10_solve_21 hP hD (by show ((LW ≤ 10000 ∧ LH = LW ∧ LS ≤ 118300) ∧ (5 * kt_F 10000 LW + 2 * kt_F 118300 LS + kt_cst st.toInt (kt_cost (kt_me (gs.toInt + 1) tt.toInt.toNat 1) sv.toInt LW LS tt.toInt gm.toInt) ≤ 5 * kt_F 10000 LW + 2 * kt_F 118300 LS) ∧ (0 ≤ pp.toInt ∧ 2 * pp.toInt ≤ (LW : Int)) ∧ kt_r wo LW (-1) 2 ∧ kt_r qu LW 0 ((LW : Int) - 1) ∧ kt_r sr LS 0 ((LW : Int) - 1) ∧ kt_r ne LS (-1) ((LS : Int) - 1) ∧ (0 ≤ vc.toInt ∧ vc.toInt ≤ 4) ∧ kt_r fv 4 0 39 ∧ kt_r xf 40 (-1) 80 ∧ kt_r xh 81 (-1) 39 ∧ (0 ≤ tn.toInt ∧ tn.toInt ≤ 1)) ∧ (st.toInt = 0 → sv = sv); first | (rw [hcp]; exact ⟨hso, fun h => absurd h (hw_4.t c_7)⟩) | exact ⟨⟨⟨hlw, hlh, hls⟩, by omega, hpp, hwo, hqu, hsr, hne, hvc, hrv, hxf, hxh, htn⟩, fun _ => rfl⟩)
  · have d_7 := c_7
    simp only [kt_lt, kt_le, kt_eq, kt_c0, kt_c1, kt_c2, kt_c3, kt_c4, kt_c8, kt_c9, kt_cm1, kt_c81, kt_c40, kt_c7, kt_c5, kt_c6, kt_c512, kt_c10, kt_c10000] at d_7
    have hlk_ := hlk0 (hw_4.t c_7)
    have hcp : kt_cst st.toInt (kt_cost (kt_me (gs.toInt + 1) tt.toInt.toNat 1) sv.toInt LW LS tt.toInt gm.toInt) = kt_cost (kt_me (gs.toInt + 1) tt.toInt.toNat 1) sv.toInt LW LS tt.toInt gm.toInt := if_neg (hw_4.t c_7)
    refine lv_aload_n hx hb dX10_solve_10 rfl (lv_at hl 0 rfl) ?_
    refine va_get (D := D) (ci := 10) (C := RX10) (T := TX10) (N := 6) hx hb hts iw_X10_solve_X10 hown hK hP 0 rfl rfl 5 (by decide) (hts (.fieldLink RX10 53 "KingTable" "solver" "LKingTable$Solver;") (kt_wp_X10_solve__X10_solve_r1 kt_wm1)) (fun _ h9 => h9) rfl dX10_solve_11 ?_
    refine kt_bi (wc := [(so, .inr (7, [.ref ru, .ref tr, .ref lk, .ref vp, .ref vd, .ref vt, .ref vg, .ref vw, .ref ve, .ref vo, .ref vq, .int qd, .int pp, .int ct, .int sv])), (ru, .inr (6, [.ref la, .ref gr, .ref rk, .ref rs, .ref rt, .int tt, .int kg, .ref rv, .int vc])), (la, .inr (1, [.int lg, .int lh, .int lt, .int lr, .int lc])), (gr, .inr (0, [.ref gt, .ref gg, .ref gn, .int gs, .int gm])), (gt, .inl (cI, 81, .inl tg)), (gg, .inl (cZ, 81, .inl gl)), (gn, .inl (cI, 324, .inl nb)), (tr, .inr (8, [.ref tf, .ref th, .int tn])), (tf, .inl (cI, 40, .inl xf)), (th, .inl (cI, 81, .inl xh)), (rk, .inl (cI, 40, .inl fk)), (rs, .inl (cI, 40, .inl fs)), (rt, .inl (cZ, 40, .inl ft)), (rv, .inl (cI, 4, .inl fv)), (vp, .inl (cI, 40, .inl fp)), (vd, .inl (cI, 40, .inl fd)), (vt, .inl (cI, 6, .inl ta)), (vg, .inl (cI, 2, .inl ga)), (lk, .inr (2, [.ref kh, .ref ks, .ref kn, .int us])), (vw, .inl (cI, LW, .inl wo)), (ve, .inl (cI, LW, .inl de)), (vo, .inl (cI, LW, .inl op)), (vq, .inl (cI, LW, .inl qu)), (kh, .inl (cI, LH, .inl he)), (ks, .inl (cI, LS, .inl sr)), (kn, .inl (cI, LS, .inl ne))]) (wr := [(kt, .inr (10, [.ref to, .ref la, .ref ru, .ref pl, .ref ho, .ref so])), (pl, .inr (4, [.ref la, .ref ru, .ref nw, .ref lo, .int st]))]) [2, 3, 4, 5, 6, 7, 8, 9, 10, 11, 12, 13, 14, 15, 16, 17, 18, 19, 20, 21, 22, 23, 24, 25, 26, 27] [0, 1] hP hD hS hA rfl rfl (by decide) (by decide) (by decide) (fun hPc hDc => va_runV (As := []) (rest := []) ⟨hx, hb, hml, hown, hts⟩ (c_X7_solveAll l D cI cZ cB H.size so ru tr lk vp vd vt vg vw ve vo vq qd pp ct sv LW LH LS la gr rk rs rt rv tt kg vc lg lh lt lr lc gt gg gn gs gm tg gl nb tf th tn xf xh fk fs ft fv fp fd ta ga kh ks kn us wo de op qu he sr ne (by first | assumption | omega | rfl | decide) (by first | assumption | omega | rfl | decide) (by first | assumption | omega | rfl | decide) (by first | assumption | omega | rfl | decide) (by first | assumption | omega | rfl | decide) (by first | assumption | omega | rfl | decide) (by first | assumption | omega | rfl | decide) (by first | assumption | omega | rfl | decide) (by first | assumption | omega | rfl | decide) (by first | assumption | omega | rfl | decide) (by first | assumption | omega | rfl | decide) (by first | assumption | omega | rfl | decide) (by first | assumption | omega | rfl | decide) (by first | assumption | omega | rfl | decide) (by first | assumption | omega | rfl | decide) (by first | assumption | omega | rfl | decide) (by first | assumption | omega | rfl | decide) (by first | assumption | omega | rfl | decide) (by first | assumption | omega | rfl | decide) (by first | assumption | omega | rfl | decide) (by first | assumption | omega | rfl | decide) (by first | assumption | omega | rfl | decide) (by first | assumption | omega | rfl | decide) (by first | assumption | omega | rfl | decide)) (cwV 0 hts gX10_solve_X7_solveAll rfl rfl rfl (by decide +kernel) ⟨Nat.le_of_ble_eq_true rfl, Nat.le_of_ble_eq_true rfl⟩) (kt_preV hN hK hPc hDc 0 (ci := 7) (q := (RX7, TX7, 15)) rfl rfl) rfl rfl hl.1 rfl (lv_room (Nat.le_of_ble_eq_true rfl)) dX10_solve_14 ⟨by show 0 + 7 ≤ 7; omega, by show 0 + (kt_cost (kt_me (gs.toInt + 1) tt.toInt.toNat 1) sv.toInt LW LS tt.toInt gm.toInt) ≤ kt_cst st.toInt (kt_cost (kt_me (gs.toInt + 1) tt.toInt.toNat 1) sv.toInt LW LS tt.toInt gm.toInt); omega⟩) (fun r_14 u_ H locs hw_14 hP hD hS => ?_)
    obtain ⟨w1_14, w2_14, w3_14, w4_14, h1_14, s1_14, s2_14, LW2_14, LH2_14, LS2_14, qd2_14, pp2_14, ct2_14, sv2_14, vc2_14, us2_14, tn2_14, wo2_14, de2_14, op2_14, qu2_14, he2_14, sr2_14, ne2_14, xf2_14, xh2_14, fv2_14, fp2_14, fd2_14, ta2_14, ga2_14⟩ := u_
    have hP : va_P D vwCl [(kt, .inr (10, [.ref to, .ref la, .ref ru, .ref pl, .ref ho, .ref so])), (pl, .inr (4, [.ref la, .ref ru, .ref nw, .ref lo, .int st])), (so, .inr (7, [.ref ru, .ref tr, .ref lk, .ref vp, .ref vd, .ref vt, .ref vg, .ref w1_14, .ref w2_14, .ref w3_14, .ref w4_14, .int qd2_14, .int pp2_14, .int ct2_14, .int sv2_14])), (ru, .inr (6, [.ref la, .ref gr, .ref rk, .ref rs, .ref rt, .int tt, .int kg, .ref rv, .int vc2_14])), (la, .inr (1, [.int lg, .int lh, .int lt, .int lr, .int lc])), (gr, .inr (0, [.ref gt, .ref gg, .ref gn, .int gs, .int gm])), (gt, .inl (cI, 81, .inl tg)), (gg, .inl (cZ, 81, .inl gl)), (gn, .inl (cI, 324, .inl nb)), (tr, .inr (8, [.ref tf, .ref th, .int tn2_14])), (tf, .inl (cI, 40, .inl xf2_14)), (th, .inl (cI, 81, .inl xh2_14)), (rk, .inl (cI, 40, .inl fk)), (rs, .inl (cI, 40, .inl fs)), (rt, .inl (cZ, 40, .inl ft)), (rv, .inl (cI, 4, .inl fv2_14)), (vp, .inl (cI, 40, .inl fp2_14)), (vd, .inl (cI, 40, .inl fd2_14)), (vt, .inl (cI, 6, .inl ta2_14)), (vg, .inl (cI, 2, .inl ga2_14)), (lk, .inr (2, [.ref h1_14, .ref s1_14, .ref s2_14, .int us2_14])), (w1_14, .inl (cI, LW2_14, .inl wo2_14)), (w2_14, .inl (cI, LW2_14, .inl de2_14)), (w3_14, .inl (cI, LW2_14, .inl op2_14)), (w4_14, .inl (cI, LW2_14, .inl qu2_14)), (h1_14, .inl (cI, LH2_14, .inl he2_14)), (s1_14, .inl (cI, LS2_14, .inl sr2_14)), (s2_14, .inl (cI, LS2_14, .inl ne2_14))] H := hP.sub [0, 1, 2, 3, 4, 5, 6, 7, 8, 9, 10, 11, 12, 13, 14, 15, 16, 17, 18, 19, 20, 21, 22, 23, 24, 25, 26, 27] rfl
    have hD : va_D A [(kt, .inr (10, [.ref to, .ref la, .ref ru, .ref pl, .ref ho, .ref so])), (pl, .inr (4, [.ref la, .ref ru, .ref nw, .ref lo, .int st])), (so, .inr (7, [.ref ru, .ref tr, .ref lk, .ref vp, .ref vd, .ref vt, .ref vg, .ref w1_14, .ref w2_14, .ref w3_14, .ref w4_14, .int qd2_14, .int pp2_14, .int ct2_14, .int sv2_14])), (ru, .inr (6, [.ref la, .ref gr, .ref rk, .ref rs, .ref rt, .int tt, .int kg, .ref rv, .int vc2_14])), (la, .inr (1, [.int lg, .int lh, .int lt, .int lr, .int lc])), (gr, .inr (0, [.ref gt, .ref gg, .ref gn, .int gs, .int gm])), (gt, .inl (cI, 81, .inl tg)), (gg, .inl (cZ, 81, .inl gl)), (gn, .inl (cI, 324, .inl nb)), (tr, .inr (8, [.ref tf, .ref th, .int tn2_14])), (tf, .inl (cI, 40, .inl xf2_14)), (th, .inl (cI, 81, .inl xh2_14)), (rk, .inl (cI, 40, .inl fk)), (rs, .inl (cI, 40, .inl fs)), (rt, .inl (cZ, 40, .inl ft)), (rv, .inl (cI, 4, .inl fv2_14)), (vp, .inl (cI, 40, .inl fp2_14)), (vd, .inl (cI, 40, .inl fd2_14)), (vt, .inl (cI, 6, .inl ta2_14)), (vg, .inl (cI, 2, .inl ga2_14)), (lk, .inr (2, [.ref h1_14, .ref s1_14, .ref s2_14, .int us2_14])), (w1_14, .inl (cI, LW2_14, .inl wo2_14)), (w2_14, .inl (cI, LW2_14, .inl de2_14)), (w3_14, .inl (cI, LW2_14, .inl op2_14)), (w4_14, .inl (cI, LW2_14, .inl qu2_14)), (h1_14, .inl (cI, LH2_14, .inl he2_14)), (s1_14, .inl (cI, LS2_14, .inl sr2_14)), (s2_14, .inl (cI, LS2_14, .inl ne2_14))] := hD.sub [0, 1, 2, 3, 4, 5, 6, 7, 8, 9, 10, 11, 12, 13, 14, 15, 16, 17, 18, 19, 20, 21, 22, 23, 24, 25, 26, 27] (by decide) rfl
    try dsimp only at hw_14
    have hso := hw_14
    refine lv_goto (tgt := 21) hx hb dX10_solve_17 (by decide) ?_
    refine W.widen (k := 7) (n := kt_cst st.toInt (kt_cost (kt_me (gs.toInt + 1) tt.toInt.toNat 1) sv.toInt LW LS tt.toInt gm.toInt)) (by show 0 + 7 ≤ 7; omega) (by show 0 + (kt_cost (kt_me (gs.toInt + 1) tt.toInt.toNat 1) sv.toInt LW LS tt.toInt gm.toInt) ≤ kt_cst st.toInt (kt_cost (kt_me (gs.toInt + 1) tt.toInt.toNat 1) sv.toInt LW LS tt.toInt gm.toInt); omega) ?_
    exact kt_ri (w1_14, w2_14, w3_14, w4_14, h1_14, s1_14, s2_14, LW2_14, LH2_14, LS2_14, qd2_14, pp2_14, ct2_14, sv2_14, vc2_14, us2_14, tn2_14, wo2_14, de2_14, op2_14, qu2_14, he2_14, sr2_14, ne2_14, xf2_14, xh2_14, fv2_14, fp2_14, fd2_14, ta2_14, ga2_14) hx hb hr hlk hS dX10_solve_21 hP hD (by show ((LW2_14 ≤ 10000 ∧ LH2_14 = LW2_14 ∧ LS2_14 ≤ 118300) ∧ (5 * kt_F 10000 LW + 2 * kt_F 118300 LS + kt_cst st.toInt (kt_cost (kt_me (gs.toInt + 1) tt.toInt.toNat 1) sv.toInt LW LS tt.toInt gm.toInt) ≤ 5 * kt_F 10000 LW2_14 + 2 * kt_F 118300 LS2_14) ∧ (0 ≤ pp2_14.toInt ∧ 2 * pp2_14.toInt ≤ (LW2_14 : Int)) ∧ kt_r wo2_14 LW2_14 (-1) 2 ∧ kt_r qu2_14 LW2_14 0 ((LW2_14 : Int) - 1) ∧ kt_r sr2_14 LS2_14 0 ((LW2_14 : Int) - 1) ∧ kt_r ne2_14 LS2_14 (-1) ((LS2_14 : Int) - 1) ∧ (0 ≤ vc2_14.toInt ∧ vc2_14.toInt ≤ 4) ∧ kt_r fv2_14 4 0 39 ∧ kt_r xf2_14 40 (-1) 80 ∧ kt_r xh2_14 81 (-1) 39 ∧ (0 ≤ tn2_14.toInt ∧ tn2_14.toInt ≤ 1)) ∧ (st.toInt = 0 → sv2_14 = sv); first | (rw [hcp]; exact ⟨hso, fun h => absurd h (hw_4.t c_7)⟩) | exact ⟨⟨⟨hlw, hlh, hls⟩, by omega, hpp, hwo, hqu, hsr, hne, hvc, hrv, hxf, hxh, htn⟩, fun _ => rfl⟩)

set_option maxHeartbeats 4000000 in
set_option maxRecDepth 100000 in
theorem c_X10_bestE (l : Launch) (D : va_G) (cI cZ cB : ClassId) (sz : Nat) (kt : Nat) (to : Nat) (la : Nat) (ru : Nat) (pl : Nat) (ho : Nat) (so : Nat) (st : Int32) (lo : Nat) (LW : Nat) (tr : Nat) (lk : Nat) (vp : Nat) (vd : Nat) (vt : Nat) (vg : Nat) (vw : Nat) (ve : Nat) (vo : Nat) (vq : Nat) (qd : Int32) (pp : Int32) (ct : Int32) (sv : Int32) (gr : Nat) (rk : Nat) (rs : Nat) (rt : Nat) (rv : Nat) (tt : Int32) (kg : Int32) (vc : Int32) (lg : Int32) (lh : Int32) (lt : Int32) (lr : Int32) (lc : Int32) (gt : Nat) (gg : Nat) (gn : Nat) (gs : Int32) (gm : Int32) (tg : Nat → Int32) (nb : Nat → Int32) (nw : Nat) (sf : Nat) (sh : Nat) (tu : Int32) (ff : Nat → Int32) (fh : Nat → Int32) (ck : Nat → Int32) (fs : Nat → Int32) (ft : Nat → Int32) (fv : Nat → Int32) (fp : Nat → Int32) (wo : Nat → Int32) (de : Nat → Int32) (w_ : Int) (L_ : Int) (P_ : Nat) (gl : Nat → Int32) (fk : Nat → Int32) (fr : Nat → Int32) (hlw : LW ≤ 10000) (hpp : 0 ≤ pp.toInt ∧ 2 * pp.toInt ≤ (LW : Int)) (hgs : 0 ≤ gs.toInt ∧ gs.toInt ≤ 81) (hgt : kt_r tg 81 0 2) (hnb : kt_r nb 324 (-1) 80) (hlr : 0 ≤ lr.toInt ∧ lr.toInt ≤ 8) (htt : 0 ≤ tt.toInt ∧ tt.toInt ≤ 40) (hkg : -1 ≤ kg.toInt ∧ kg.toInt ≤ 39) (hvc : 0 ≤ vc.toInt ∧ vc.toInt ≤ 4) (hff : kt_r ff 40 (-1) 80) (hfh : kt_r fh 81 (-1) 39) (htu : 0 ≤ tu.toInt ∧ tu.toInt ≤ 1) (hrk : kt_r ck 40 0 4) (hrs : kt_r fs 40 0 1) (hrt : kt_r ft 40 0 1) (hrv : kt_r fv 4 0 39) (hwo : kt_r wo LW (-1) 2) (hpl0 : ¬ sv.toInt = 0 → kt_RX w_ L_ P_ tt kg gs lg lt tg gl nb fk fs ft fr ck ∧ kt_ST w_ L_ P_ ff fh) : kt_Mi l yX10_best wsX10_best { frames := 5, cells := 0, slots := 0, locals := 133 } D (kt_ty cI cZ cB) [.ref kt] sz [(kt, .inr (10, [.ref to, .ref la, .ref ru, .ref pl, .ref ho, .ref so])), (pl, .inr (4, [.ref la, .ref ru, .ref nw, .ref lo, .int st])), (so, .inr (7, [.ref ru, .ref tr, .ref lk, .ref vp, .ref vd, .ref vt, .ref vg, .ref vw, .ref ve, .ref vo, .ref vq, .int qd, .int pp, .int ct, .int sv])), (ru, .inr (6, [.ref la, .ref gr, .ref rk, .ref rs, .ref rt, .int tt, .int kg, .ref rv, .int vc])), (la, .inr (1, [.int lg, .int lh, .int lt, .int lr, .int lc])), (gr, .inr (0, [.ref gt, .ref gg, .ref gn, .int gs, .int gm])), (gt, .inl (cI, 81, .inl tg)), (gn, .inl (cI, 324, .inl nb)), (nw, .inr (8, [.ref sf, .ref sh, .int tu])), (sf, .inl (cI, 40, .inl ff)), (sh, .inl (cI, 81, .inl fh)), (rk, .inl (cI, 40, .inl ck)), (rs, .inl (cI, 40, .inl fs)), (rt, .inl (cZ, 40, .inl ft)), (rv, .inl (cI, 4, .inl fv)), (vp, .inl (cI, 40, .inl fp)), (vw, .inl (cI, LW, .inl wo)), (ve, .inl (cI, LW, .inl de))] (fun (r : Int32) (u : Int32 × (Nat → Int32)) => kt_r u.2 4 0 39 ∧ 0 ≤ u.1.toInt ∧ u.1.toInt ≤ 4) (fun (u : Int32 × (Nat → Int32)) => [(kt, .inr (10, [.ref to, .ref la, .ref ru, .ref pl, .ref ho, .ref so])), (pl, .inr (4, [.ref la, .ref ru, .ref nw, .ref lo, .int st])), (so, .inr (7, [.ref ru, .ref tr, .ref lk, .ref vp, .ref vd, .ref vt, .ref vg, .ref vw, .ref ve, .ref vo, .ref vq, .int qd, .int pp, .int ct, .int sv])), (ru, .inr (6, [.ref la, .ref gr, .ref rk, .ref rs, .ref rt, .int tt, .int kg, .ref rv, .int u.1])), (la, .inr (1, [.int lg, .int lh, .int lt, .int lr, .int lc])), (gr, .inr (0, [.ref gt, .ref gg, .ref gn, .int gs, .int gm])), (gt, .inl (cI, 81, .inl tg)), (gn, .inl (cI, 324, .inl nb)), (nw, .inr (8, [.ref sf, .ref sh, .int tu])), (sf, .inl (cI, 40, .inl ff)), (sh, .inl (cI, 81, .inl fh)), (rk, .inl (cI, 40, .inl ck)), (rs, .inl (cI, 40, .inl fs)), (rt, .inl (cZ, 40, .inl ft)), (rv, .inl (cI, 4, .inl u.2)), (vp, .inl (cI, 40, .inl fp)), (vw, .inl (cI, LW, .inl wo)), (ve, .inl (cI, LW, .inl de))]) 0 0 := by
  refine kt_Mi.of (cc := cX10_best) (maxL := 1) (ret := some .int) (by decide) rfl (Nat.le_of_ble_eq_true rfl) ?_
  intro p e s m below meth c A ls H hAt hP hD hS hl
  obtain ⟨hx, hb, hr, hml, hown, hts, hN, hK, hlk, hnm, hA⟩ := hAt
  have hl : lv_has ls 1 [(0, .ref kt)] := hl
  have hown : s.vm.findClass RX10 = some m.cls := hown
  refine lv_aload_n hx hb dX10_best_0 rfl (lv_at hl 0 rfl) ?_
  refine va_get (D := D) (ci := 10) (C := RX10) (T := TX10) (N := 6) hx hb hts iw_X10_best_X10 hown hK hP 0 rfl rfl 5 (by decide) (hts (.fieldLink RX10 53 "KingTable" "solver" "LKingTable$Solver;") (kt_wp_X10_best__X10_best_r1 kt_wm0)) (fun _ h9 => h9) rfl dX10_best_1 ?_
  refine lv_aload_n hx hb dX10_best_4 rfl (lv_at hl 0 rfl) ?_
  refine va_get (D := D) (ci := 10) (C := RX10) (T := TX10) (N := 6) hx hb hts iw_X10_best_X10 hown hK hP 0 rfl rfl 3 (by decide) (hts (.fieldLink RX10 37 "KingTable" "play" "LKingTable$Play;") (kt_wp_X10_best__X10_best_r1 kt_wm1)) (fun _ h9 => h9) rfl dX10_best_5 ?_
  refine va_getN (D := D) (ci := 4) (C := RX4) (T := TX4) (N := 5) hx hb hts iw_X10_best_X4 hown hK hP 1 rfl rfl 2 (by decide) (va_Nw.use (w := .fieldLinkNest RX10 139 "KingTable$Play" "now" "LKingTable$Stand;" "KingTable") rfl (hN _ (by decide +kernel))) (fun _ h9 => h9) rfl dX10_best_8 ?_
  refine kt_bi (wc := [(so, .inr (7, [.ref ru, .ref tr, .ref lk, .ref vp, .ref vd, .ref vt, .ref vg, .ref vw, .ref ve, .ref vo, .ref vq, .int qd, .int pp, .int ct, .int sv])), (ru, .inr (6, [.ref la, .ref gr, .ref rk, .ref rs, .ref rt, .int tt, .int kg, .ref rv, .int vc])), (la, .inr (1, [.int lg, .int lh, .int lt, .int lr, .int lc])), (gr, .inr (0, [.ref gt, .ref gg, .ref gn, .int gs, .int gm])), (gt, .inl (cI, 81, .inl tg)), (gn, .inl (cI, 324, .inl nb)), (nw, .inr (8, [.ref sf, .ref sh, .int tu])), (sf, .inl (cI, 40, .inl ff)), (sh, .inl (cI, 81, .inl fh)), (rk, .inl (cI, 40, .inl ck)), (rs, .inl (cI, 40, .inl fs)), (rt, .inl (cZ, 40, .inl ft)), (rv, .inl (cI, 4, .inl fv)), (vp, .inl (cI, 40, .inl fp)), (vw, .inl (cI, LW, .inl wo)), (ve, .inl (cI, LW, .inl de))]) (wr := [(kt, .inr (10, [.ref to, .ref la, .ref ru, .ref pl, .ref ho, .ref so])), (pl, .inr (4, [.ref la, .ref ru, .ref nw, .ref lo, .int st]))]) [2, 3, 4, 5, 6, 7, 8, 9, 10, 11, 12, 13, 14, 15, 16, 17] [0, 1] hP hD hS hA rfl rfl (by decide) (by decide) (by decide) (fun hPc hDc => va_runV (As := [.ref nw]) (rest := []) ⟨hx, hb, hml, hown, hts⟩ (c_X7_bestMoveE l D cI cZ cB H.size so ru tr lk vp vd vt vg vw ve vo vq qd pp ct sv LW LW 0 LW la gr rk rs rt rv tt kg vc lg lh lt lr lc gt gg gn gs gm tg nb nw sf sh tu ff fh ck fs ft fv fp wo de w_ L_ P_ gl fk fr (by first | assumption | omega | rfl | decide) (by first | assumption | omega | rfl | decide) (by first | assumption | omega | rfl | decide) (by first | assumption | omega | rfl | decide) (by first | assumption | omega | rfl | decide) (by first | assumption | omega | rfl | decide) (by first | assumption | omega | rfl | decide) (by first | assumption | omega | rfl | decide) (by first | assumption | omega | rfl | decide) (by first | assumption | omega | rfl | decide) (by first | assumption | omega | rfl | decide) (by first | assumption | omega | rfl | decide) (by first | assumption | omega | rfl | decide) (by first | assumption | omega | rfl | decide) (by first | assumption | omega | rfl | decide) (by first | assumption | omega | rfl | decide) (by first | assumption | omega | rfl | decide) (by first | assumption | omega | rfl | decide) (by first | assumption | omega | rfl | decide) (by first | assumption | omega | rfl | decide) (by first | assumption | omega | rfl | decide)) (cwV 1 hts gX10_best_X7_bestMove rfl rfl rfl (by decide +kernel) ⟨Nat.le_of_ble_eq_true rfl, Nat.le_of_ble_eq_true rfl⟩) (kt_preV hN hK hPc hDc 0 (ci := 7) (q := (RX7, TX7, 15)) rfl rfl) rfl rfl hl.1 rfl (lv_room (Nat.le_of_ble_eq_true rfl)) dX10_best_11 ⟨Nat.le_of_ble_eq_true rfl, Nat.le_of_ble_eq_true rfl⟩) (fun r_11 u_ H locs hw_11 hP hD hS => ?_)
  obtain ⟨vc2_11, fv2_11⟩ := u_
  have hP : va_P D vwCl [(kt, .inr (10, [.ref to, .ref la, .ref ru, .ref pl, .ref ho, .ref so])), (pl, .inr (4, [.ref la, .ref ru, .ref nw, .ref lo, .int st])), (so, .inr (7, [.ref ru, .ref tr, .ref lk, .ref vp, .ref vd, .ref vt, .ref vg, .ref vw, .ref ve, .ref vo, .ref vq, .int qd, .int pp, .int ct, .int sv])), (ru, .inr (6, [.ref la, .ref gr, .ref rk, .ref rs, .ref rt, .int tt, .int kg, .ref rv, .int vc2_11])), (la, .inr (1, [.int lg, .int lh, .int lt, .int lr, .int lc])), (gr, .inr (0, [.ref gt, .ref gg, .ref gn, .int gs, .int gm])), (gt, .inl (cI, 81, .inl tg)), (gn, .inl (cI, 324, .inl nb)), (nw, .inr (8, [.ref sf, .ref sh, .int tu])), (sf, .inl (cI, 40, .inl ff)), (sh, .inl (cI, 81, .inl fh)), (rk, .inl (cI, 40, .inl ck)), (rs, .inl (cI, 40, .inl fs)), (rt, .inl (cZ, 40, .inl ft)), (rv, .inl (cI, 4, .inl fv2_11)), (vp, .inl (cI, 40, .inl fp)), (vw, .inl (cI, LW, .inl wo)), (ve, .inl (cI, LW, .inl de))] H := hP.sub [0, 1, 2, 3, 4, 5, 6, 7, 8, 9, 10, 11, 12, 13, 14, 15, 16, 17] rfl
  have hD : va_D A [(kt, .inr (10, [.ref to, .ref la, .ref ru, .ref pl, .ref ho, .ref so])), (pl, .inr (4, [.ref la, .ref ru, .ref nw, .ref lo, .int st])), (so, .inr (7, [.ref ru, .ref tr, .ref lk, .ref vp, .ref vd, .ref vt, .ref vg, .ref vw, .ref ve, .ref vo, .ref vq, .int qd, .int pp, .int ct, .int sv])), (ru, .inr (6, [.ref la, .ref gr, .ref rk, .ref rs, .ref rt, .int tt, .int kg, .ref rv, .int vc2_11])), (la, .inr (1, [.int lg, .int lh, .int lt, .int lr, .int lc])), (gr, .inr (0, [.ref gt, .ref gg, .ref gn, .int gs, .int gm])), (gt, .inl (cI, 81, .inl tg)), (gn, .inl (cI, 324, .inl nb)), (nw, .inr (8, [.ref sf, .ref sh, .int tu])), (sf, .inl (cI, 40, .inl ff)), (sh, .inl (cI, 81, .inl fh)), (rk, .inl (cI, 40, .inl ck)), (rs, .inl (cI, 40, .inl fs)), (rt, .inl (cZ, 40, .inl ft)), (rv, .inl (cI, 4, .inl fv2_11)), (vp, .inl (cI, 40, .inl fp)), (vw, .inl (cI, LW, .inl wo)), (ve, .inl (cI, LW, .inl de))] := hD.sub [0, 1, 2, 3, 4, 5, 6, 7, 8, 9, 10, 11, 12, 13, 14, 15, 16, 17] (by decide) rfl
  try dsimp only at hw_11
  
  exact kt_ri (vc2_11, fv2_11) hx hb hr hlk hS dX10_best_14 hP hD (by show kt_r fv2_11 4 0 39 ∧ 0 ≤ vc2_11.toInt ∧ vc2_11.toInt ≤ 4; exact hw_11)
