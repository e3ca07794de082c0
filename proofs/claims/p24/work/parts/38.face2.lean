theorem iw_X10_go_X10 : ∀ w ∈ wsX100, w ∈ wsX10_go := fun _ h => kt_wp_X10_go__X100 h
theorem iw_X10_why_X10 : ∀ w ∈ wsX100, w ∈ wsX10_why := fun _ h => kt_wp_X10_why__X100 h
theorem iw_X10_back_X10 : ∀ w ∈ wsX100, w ∈ wsX10_back := fun _ h => kt_wp_X10_back__X100 h
theorem iw_X10_again_X10 : ∀ w ∈ wsX100, w ∈ wsX10_again := fun _ h => kt_wp_X10_again__X100 h
theorem iw_X10_about_X10 : ∀ w ∈ wsX100, w ∈ wsX10_about := fun _ h => kt_wp_X10_about__X100 h
theorem iw_X10_about_X4 : ∀ w ∈ wsX40, w ∈ wsX10_about := fun _ h => kt_wp_X10_about__X40 h
theorem iw_X10_about_X6 : ∀ w ∈ wsX60, w ∈ wsX10_about := fun _ h => kt_wp_X10_about__X60 h
theorem iw_X10_about_X3 : ∀ w ∈ wsX30, w ∈ wsX10_about := fun _ h => kt_wp_X10_about__X30 h
theorem iw_X10_about_X9 : ∀ w ∈ wsX90, w ∈ wsX10_about := fun _ h => kt_wp_X10_about__X90 h
theorem iw_X10_piece_X10 : ∀ w ∈ wsX100, w ∈ wsX10_piece := fun _ h => kt_wp_X10_piece__X100 h
theorem iw_X10_piece_X6 : ∀ w ∈ wsX60, w ∈ wsX10_piece := fun _ h => kt_wp_X10_piece__X60 h
theorem iw_X10_piece_X4 : ∀ w ∈ wsX40, w ∈ wsX10_piece := fun _ h => kt_wp_X10_piece__X40 h
theorem iw_X10_on_X10 : ∀ w ∈ wsX100, w ∈ wsX10_on := fun _ h => kt_wp_X10_on__X100 h
theorem iw_X10_on_X4 : ∀ w ∈ wsX40, w ∈ wsX10_on := fun _ h => kt_wp_X10_on__X40 h
theorem iw_X10_field_X10 : ∀ w ∈ wsX100, w ∈ wsX10_field := fun _ h => kt_wp_X10_field__X100 h
theorem iw_X10_field_X6 : ∀ w ∈ wsX60, w ∈ wsX10_field := fun _ h => kt_wp_X10_field__X60 h
theorem iw_X10_field_X0 : ∀ w ∈ wsX00, w ∈ wsX10_field := fun _ h => kt_wp_X10_field__X00 h
theorem iw_X10_took_X10 : ∀ w ∈ wsX100, w ∈ wsX10_took := fun _ h => kt_wp_X10_took__X100 h
theorem iw_X10_took_X4 : ∀ w ∈ wsX40, w ∈ wsX10_took := fun _ h => kt_wp_X10_took__X40 h
theorem iw_X10_ring_X10 : ∀ w ∈ wsX100, w ∈ wsX10_ring := fun _ h => kt_wp_X10_ring__X100 h
theorem iw_X10_ring_X4 : ∀ w ∈ wsX40, w ∈ wsX10_ring := fun _ h => kt_wp_X10_ring__X40 h
set_option maxHeartbeats 4000000 in
set_option maxRecDepth 100000 in
theorem c_X10_ring (l : Launch) (D : va_G) (cI cZ cB : ClassId) (sz : Nat) (kt : Nat) (to : Nat) (la : Nat) (ru : Nat) (pl : Nat) (ho : Nat) (so : Nat) (st : Int32) (lo : Nat) (ora : Nat) (osa : Nat) (fr : Nat → Int32) (fz : Nat → Int32) (gr : Nat) (rk : Nat) (rs : Nat) (rt : Nat) (rv : Nat) (tt : Int32) (kg : Int32) (vc : Int32) (gt : Nat) (gg : Nat) (gn : Nat) (gs : Int32) (gm : Int32) (nb : Nat → Int32) (gl : Nat → Int32) (nw : Nat) (sf : Nat) (sh : Nat) (tu : Int32) (ff : Nat → Int32) (fh : Nat → Int32) (fs : Nat → Int32) (hgs : 0 ≤ gs.toInt ∧ gs.toInt ≤ 81) (hnb : kt_r nb 324 (-1) 80) (hgg : kt_r gl 81 0 1) (hff : kt_r ff 40 (-1) 80) (hfh : kt_r fh 81 (-1) 39) (hrs : kt_r fs 40 0 1) (htt : 0 ≤ tt.toInt ∧ tt.toInt ≤ 40) (hfr : kt_r fr 81 (-1) 80) : kt_Mi l yX10_ring wsX10_ring { frames := 3, cells := 0, slots := 0, locals := 72 } D (kt_ty cI cZ cB) [.ref kt] sz [(kt, .inr (10, [.ref to, .ref la, .ref ru, .ref pl, .ref ho, .ref so])), (pl, .inr (4, [.ref la, .ref ru, .ref nw, .ref lo, .int st])), (ho, .inr (5, [.ref ru, .ref ora, .ref osa])), (ora, .inl (cI, 81, .inl fr)), (osa, .inl (cZ, 81, .inl fz)), (ru, .inr (6, [.ref la, .ref gr, .ref rk, .ref rs, .ref rt, .int tt, .int kg, .ref rv, .int vc])), (gr, .inr (0, [.ref gt, .ref gg, .ref gn, .int gs, .int gm])), (gn, .inl (cI, 324, .inl nb)), (gg, .inl (cZ, 81, .inl gl)), (nw, .inr (8, [.ref sf, .ref sh, .int tu])), (sf, .inl (cI, 40, .inl ff)), (sh, .inl (cI, 81, .inl fh)), (rs, .inl (cI, 40, .inl fs))] (fun (r : Int32) (u : (Nat → Int32) × (Nat → Int32)) => (0 ≤ r.toInt ∧ r.toInt ≤ 1) ∧ kt_r u.1 81 (-1) 80) (fun (u : (Nat → Int32) × (Nat → Int32)) => [(kt, .inr (10, [.ref to, .ref la, .ref ru, .ref pl, .ref ho, .ref so])), (pl, .inr (4, [.ref la, .ref ru, .ref nw, .ref lo, .int st])), (ho, .inr (5, [.ref ru, .ref ora, .ref osa])), (ora, .inl (cI, 81, .inl u.1)), (osa, .inl (cZ, 81, .inl u.2)), (ru, .inr (6, [.ref la, .ref gr, .ref rk, .ref rs, .ref rt, .int tt, .int kg, .ref rv, .int vc])), (gr, .inr (0, [.ref gt, .ref gg, .ref gn, .int gs, .int gm])), (gn, .inl (cI, 324, .inl nb)), (gg, .inl (cZ, 81, .inl gl)), (nw, .inr (8, [.ref sf, .ref sh, .int tu])), (sf, .inl (cI, 40, .inl ff)), (sh, .inl (cI, 81, .inl fh)), (rs, .inl (cI, 40, .inl fs))]) 0 0 := by
  refine kt_Mi.of (cc := cX10_ring) (maxL := 1) (ret := some .boolean) (by decide) rfl (Nat.le_of_ble_eq_true rfl) ?_
  intro p e s m below meth c A ls H hAt hP hD hS hl
  obtain ⟨hx, hb, hr, hml, hown, hts, hN, hK, hlk, hnm, hA⟩ := hAt
  have hl : lv_has ls 1 [(0, .ref kt)] := hl
  have hown : s.vm.findClass RX10 = some m.cls := hown
  refine lv_aload_n hx hb dX10_ring_0 rfl (lv_at hl 0 rfl) ?_
  refine va_get (D := D) (ci := 10) (C := RX10) (T := TX10) (N := 6) hx hb hts iw_X10_ring_X10 hown hK hP 0 rfl rfl 4 (by decide) (hts (.fieldLink RX10 46 "KingTable" "hold" "LKingTable$Ring;") (kt_wp_X10_ring__X10_ring_r1 kt_wm0)) (fun _ h9 => h9) rfl dX10_ring_1 ?_
  refine lv_aload_n hx hb dX10_ring_4 rfl (lv_at hl 0 rfl) ?_
  refine va_get (D := D) (ci := 10) (C := RX10) (T := TX10) (N := 6) hx hb hts iw_X10_ring_X10 hown hK hP 0 rfl rfl 3 (by decide) (hts (.fieldLink RX10 37 "KingTable" "play" "LKingTable$Play;") (kt_wp_X10_ring__X10_ring_r1 kt_wm1)) (fun _ h9 => h9) rfl dX10_ring_5 ?_
  refine va_getN (D := D) (ci := 4) (C := RX4) (T := TX4) (N := 5) hx hb hts iw_X10_ring_X4 hown hK hP 1 rfl rfl 2 (by decide) (va_Nw.use (w := .fieldLinkNest RX10 139 "KingTable$Play" "now" "LKingTable$Stand;" "KingTable") rfl (hN _ (by decide +kernel))) (fun _ h9 => h9) rfl dX10_ring_8 ?_
  refine lv_iconst (v := (-1)) hx hb dX10_ring_11 (by decide) ?_
  refine kt_bi (wc := [(ho, .inr (5, [.ref ru, .ref ora, .ref osa])), (ora, .inl (cI, 81, .inl fr)), (osa, .inl (cZ, 81, .inl fz)), (ru, .inr (6, [.ref la, .ref gr, .ref rk, .ref rs, .ref rt, .int tt, .int kg, .ref rv, .int vc])), (gr, .inr (0, [.ref gt, .ref gg, .ref gn, .int gs, .int gm])), (gn, .inl (cI, 324, .inl nb)), (gg, .inl (cZ, 81, .inl gl)), (nw, .inr (8, [.ref sf, .ref sh, .int tu])), (sf, .inl (cI, 40, .inl ff)), (sh, .inl (cI, 81, .inl fh)), (rs, .inl (cI, 40, .inl fs))]) (wr := [(kt, .inr (10, [.ref to, .ref la, .ref ru, .ref pl, .ref ho, .ref so])), (pl, .inr (4, [.ref la, .ref ru, .ref nw, .ref lo, .int st]))]) [2, 3, 4, 5, 6, 7, 8, 9, 10, 11, 12] [0, 1] hP hD hS hA rfl rfl (by decide) (by decide) (by decide) (fun hPc hDc => va_runV (As := [.ref nw, .int (-1)]) (rest := []) ⟨hx, hb, hml, hown, hts⟩ (c_X5_holds l D cI cZ cB H.size ho ora osa fr fz ru la gr rk rs rt rv tt kg vc gt gg gn gs gm nb gl nw sf sh tu ff fh fs (-1) (by first | assumption | omega | rfl | decide) (by first | assumption | omega | rfl | decide) (by first | assumption | omega | rfl | decide) (by first | assumption | omega | rfl | decide) (by first | assumption | omega | rfl | decide) (by first | assumption | omega | rfl | decide) (by first | assumption | omega | rfl | decide) (by first | assumption | omega | rfl | decide)) (cwV 2 hts gX10_ring_X5_holds rfl rfl rfl (by decide +kernel) ⟨Nat.le_of_ble_eq_true rfl, Nat.le_of_ble_eq_true rfl⟩) (kt_preV hN hK hPc hDc 0 (ci := 5) (q := (RX5, TX5, 3)) rfl rfl) rfl rfl hl.1 rfl (lv_room (Nat.le_of_ble_eq_true rfl)) dX10_ring_12 ⟨Nat.le_of_ble_eq_true rfl, Nat.le_of_ble_eq_true rfl⟩) (fun r_12 u_ H locs hw_12 hP hD hS => ?_)
  obtain ⟨g1_12, g2_12⟩ := u_
  have hP : va_P D vwCl [(kt, .inr (10, [.ref to, .ref la, .ref ru, .ref pl, .ref ho, .ref so])), (pl, .inr (4, [.ref la, .ref ru, .ref nw, .ref lo, .int st])), (ho, .inr (5, [.ref ru, .ref ora, .ref osa])), (ora, .inl (cI, 81, .inl g1_12)), (osa, .inl (cZ, 81, .inl g2_12)), (ru, .inr (6, [.ref la, .ref gr, .ref rk, .ref rs, .ref rt, .int tt, .int kg, .ref rv, .int vc])), (gr, .inr (0, [.ref gt, .ref gg, .ref gn, .int gs, .int gm])), (gn, .inl (cI, 324, .inl nb)), (gg, .inl (cZ, 81, .inl gl)), (nw, .inr (8, [.ref sf, .ref sh, .int tu])), (sf, .inl (cI, 40, .inl ff)), (sh, .inl (cI, 81, .inl fh)), (rs, .inl (cI, 40, .inl fs))] H := hP.sub [0, 1, 2, 3, 4, 5, 6, 7, 8, 9, 10, 11, 12] rfl
  have hD : va_D A [(kt, .inr (10, [.ref to, .ref la, .ref ru, .ref pl, .ref ho, .ref so])), (pl, .inr (4, [.ref la, .ref ru, .ref nw, .ref lo, .int st])), (ho, .inr (5, [.ref ru, .ref ora, .ref osa])), (ora, .inl (cI, 81, .inl g1_12)), (osa, .inl (cZ, 81, .inl g2_12)), (ru, .inr (6, [.ref la, .ref gr, .ref rk, .ref rs, .ref rt, .int tt, .int kg, .ref rv, .int vc])), (gr, .inr (0, [.ref gt, .ref gg, .ref gn, .int gs, .int gm])), (gn, .inl (cI, 324, .inl nb)), (gg, .inl (cZ, 81, .inl gl)), (nw, .inr (8, [.ref sf, .ref sh, .int tu])), (sf, .inl (cI, 40, .inl ff)), (sh, .inl (cI, 81, .inl fh)), (rs, .inl (cI, 40, .inl fs))] := hD.sub [0, 1, 2, 3, 4, 5, 6, 7, 8, 9, 10, 11, 12] (by decide) rfl
  try dsimp only at hw_12
  
  exact kt_rz (g1_12, g2_12) hx hb hr hlk hS dX10_ring_15 hP hD (by show (0 ≤ r_12.toInt ∧ r_12.toInt ≤ 1) ∧ kt_r g1_12 81 (-1) 80; exact hw_12) (by exact kt_z hw_12.1.1 hw_12.1.2)

theorem iw_X10_needed_X10 : ∀ w ∈ wsX100, w ∈ wsX10_needed := fun _ h => kt_wp_X10_needed__X100 h
theorem iw_X10_needed_X6 : ∀ w ∈ wsX60, w ∈ wsX10_needed := fun _ h => kt_wp_X10_needed__X60 h
theorem iw_X10_needed_X4 : ∀ w ∈ wsX40, w ∈ wsX10_needed := fun _ h => kt_wp_X10_needed__X40 h
set_option maxHeartbeats 4000000 in
set_option maxRecDepth 100000 in
theorem c_X10_needed (l : Launch) (D : va_G) (cI cZ cB : ClassId) (sz : Nat) (kt : Nat) (to : Nat) (la : Nat) (ru : Nat) (pl : Nat) (ho : Nat) (so : Nat) (st : Int32) (lo : Nat) (ora : Nat) (osa : Nat) (fr : Nat → Int32) (fz : Nat → Int32) (gr : Nat) (rk : Nat) (rs : Nat) (rt : Nat) (rv : Nat) (tt : Int32) (kg : Int32) (vc : Int32) (gt : Nat) (gg : Nat) (gn : Nat) (gs : Int32) (gm : Int32) (nb : Nat → Int32) (gl : Nat → Int32) (nw : Nat) (sf : Nat) (sh : Nat) (tu : Int32) (ff : Nat → Int32) (fh : Nat → Int32) (fs : Nat → Int32) (p1 : Int32) (hgs : 0 ≤ gs.toInt ∧ gs.toInt ≤ 81) (hnb : kt_r nb 324 (-1) 80) (hgg : kt_r gl 81 0 1) (hff : kt_r ff 40 (-1) 80) (hfh : kt_r fh 81 (-1) 39) (hrs : kt_r fs 40 0 1) (htt : 0 ≤ tt.toInt ∧ tt.toInt ≤ 40) (hfr : kt_r fr 81 (-1) 80) : kt_Mi l yX10_needed wsX10_needed { frames := 3, cells := 0, slots := 0, locals := 72 } D (kt_ty cI cZ cB) [.ref kt, .int p1] sz [(kt, .inr (10, [.ref to, .ref la, .ref ru, .ref pl, .ref ho, .ref so])), (pl, .inr (4, [.ref la, .ref ru, .ref nw, .ref lo, .int st])), (ho, .inr (5, [.ref ru, .ref ora, .ref osa])), (ora, .inl (cI, 81, .inl fr)), (osa, .inl (cZ, 81, .inl fz)), (ru, .inr (6, [.ref la, .ref gr, .ref rk, .ref rs, .ref rt, .int tt, .int kg, .ref rv, .int vc])), (gr, .inr (0, [.ref gt, .ref gg, .ref gn, .int gs, .int gm])), (gn, .inl (cI, 324, .inl nb)), (gg, .inl (cZ, 81, .inl gl)), (nw, .inr (8, [.ref sf, .ref sh, .int tu])), (sf, .inl (cI, 40, .inl ff)), (sh, .inl (cI, 81, .inl fh)), (rs, .inl (cI, 40, .inl fs))] (fun (r : Int32) (u : (Nat → Int32) × (Nat → Int32)) => (0 ≤ r.toInt ∧ r.toInt ≤ 1) ∧ kt_r u.1 81 (-1) 80) (fun (u : (Nat → Int32) × (Nat → Int32)) => [(kt, .inr (10, [.ref to, .ref la, .ref ru, .ref pl, .ref ho, .ref so])), (pl, .inr (4, [.ref la, .ref ru, .ref nw, .ref lo, .int st])), (ho, .inr (5, [.ref ru, .ref ora, .ref osa])), (ora, .inl (cI, 81, .inl u.1)), (osa, .inl (cZ, 81, .inl u.2)), (ru, .inr (6, [.ref la, .ref gr, .ref rk, .ref rs, .ref rt, .int tt, .int kg, .ref rv, .int vc])), (gr, .inr (0, [.ref gt, .ref gg, .ref gn, .int gs, .int gm])), (gn, .inl (cI, 324, .inl nb)), (gg, .inl (cZ, 81, .inl gl)), (nw, .inr (8, [.ref sf, .ref sh, .int tu])), (sf, .inl (cI, 40, .inl ff)), (sh, .inl (cI, 81, .inl fh)), (rs, .inl (cI, 40, .inl fs))]) 0 0 := by
  refine kt_Mi.of (cc := cX10_needed) (maxL := 2) (ret := some .boolean) (by decide) rfl (Nat.le_of_ble_eq_true rfl) ?_
  intro p e s m below meth c A ls H hAt hP hD hS hl
  obtain ⟨hx, hb, hr, hml, hown, hts, hN, hK, hlk, hnm, hA⟩ := hAt
  have hl : lv_has ls 2 [(0, .ref kt), (1, .int p1)] := hl
  have hown : s.vm.findClass RX10 = some m.cls := hown
  refine lv_aload_n hx hb dX10_needed_0 rfl (lv_at hl 0 rfl) ?_
  refine va_get (D := D) (ci := 10) (C := RX10) (T := TX10) (N := 6) hx hb hts iw_X10_needed_X10 hown hK hP 0 rfl rfl 2 (by decide) (hts (.fieldLink RX10 28 "KingTable" "rules" "LKingTable$Rules;") (kt_wp_X10_needed__X10_needed_r1 kt_wm0)) (fun _ h9 => h9) rfl dX10_needed_1 ?_
  refine lv_iload_n hx hb dX10_needed_4 rfl (lv_at hl 1 rfl) ?_
  refine kt_pi (wc := [(ru, .inr (6, [.ref la, .ref gr, .ref rk, .ref rs, .ref rt, .int tt, .int kg, .ref rv, .int vc]))]) [5] hP hD hS hA rfl (by decide) (fun hPc hDc => va_runV (As := [.int p1]) (rest := []) ⟨hx, hb, hml, hown, hts⟩ (c_X6_isPiece l D cI cZ cB H.size ru la gr rk rs rt rv tt kg vc p1 ) (cwV 1 hts gX10_needed_X6_isPiece rfl rfl rfl (by decide +kernel) ⟨Nat.le_of_ble_eq_true rfl, Nat.le_of_ble_eq_true rfl⟩) (kt_preV hN hK hPc hDc 0 (ci := 6) (q := (RX6, TX6, 9)) rfl rfl) rfl rfl hl.1 rfl (lv_room (Nat.le_of_ble_eq_true rfl)) dX10_needed_5 ⟨Nat.le_of_ble_eq_true rfl, Nat.le_of_ble_eq_true rfl⟩) (fun r_5 _ H locs hw_5 hP hS => ?_)
  refine lv_if_eq (tgt := 64) hx hb dX10_needed_8 (by decide) (fun c_8 => ?_) (fun c_8 => ?_)
  · have d_8 := c_8
    simp only [kt_lt, kt_le, kt_eq, kt_c0, kt_c1, kt_c2, kt_c3, kt_c4, kt_c8, kt_c9, kt_cm1, kt_c81, kt_c40, kt_c7, kt_c5, kt_c6, kt_c512, kt_c10, kt_c10000] at d_8
    refine lv_iconst (v := 0) hx hb dX10_needed_64 (by decide) ?_
    exact kt_rz (fr, fz) hx hb hr hlk hS dX10_needed_65 hP hD (by show (0 ≤ (0 : Int32).toInt ∧ (0 : Int32).toInt ≤ 1) ∧ kt_r fr 81 (-1) 80; exact ⟨by decide, hfr⟩) rfl
  · have d_8 := c_8
    simp only [kt_lt, kt_le, kt_eq, kt_c0, kt_c1, kt_c2, kt_c3, kt_c4, kt_c8, kt_c9, kt_cm1, kt_c81, kt_c40, kt_c7, kt_c5, kt_c6, kt_c512, kt_c10, kt_c10000] at d_8
    have hq1 := hw_5.t c_8
    refine lv_aload_n hx hb dX10_needed_11 rfl (lv_at hl 0 rfl) ?_
    refine va_get (D := D) (ci := 10) (C := RX10) (T := TX10) (N := 6) hx hb hts iw_X10_needed_X10 hown hK hP 0 rfl rfl 2 (by decide) (hts (.fieldLink RX10 28 "KingTable" "rules" "LKingTable$Rules;") (kt_wp_X10_needed__X10_needed_r1 kt_wm0)) (fun _ h9 => h9) rfl dX10_needed_12 ?_
    refine va_getN (D := D) (ci := 6) (C := RX6) (T := TX6) (N := 9) hx hb hts iw_X10_needed_X6 hown hK hP 5 rfl rfl 3 (by decide) (va_Nw.use (w := .fieldLinkNest RX10 178 "KingTable$Rules" "sides" "[I" "KingTable") rfl (hN _ (by decide +kernel))) (fun _ h9 => h9) rfl dX10_needed_15 ?_
    refine lv_iload_n hx hb dX10_needed_18 rfl (lv_at hl 1 rfl) ?_
    have hi_1 : vp_in p1 40 := by exact kt_in (by omega) (by omega)
    refine va_iald hx hb hK hP 12 0 rfl rfl hi_1 dX10_needed_19 ?_
    refine lv_topi (fun a_19 ea_19 => ?_)
    have ra_19 := hrs.get hi_1
    rw [← ea_19] at ra_19
    refine lv_iconst (v := 1) hx hb dX10_needed_20 (by decide) ?_
    refine lv_icmp_ne (tgt := 64) hx hb dX10_needed_21 (by decide) (fun c_21 => ?_) (fun c_21 => ?_)
    · have d_21 := c_21
      simp only [kt_lt, kt_le, kt_eq, kt_c0, kt_c1, kt_c2, kt_c3, kt_c4, kt_c8, kt_c9, kt_cm1, kt_c81, kt_c40, kt_c7, kt_c5, kt_c6, kt_c512, kt_c10, kt_c10000] at d_21
      refine lv_iconst (v := 0) hx hb dX10_needed_64 (by decide) ?_
      exact kt_rz (fr, fz) hx hb hr hlk hS dX10_needed_65 hP hD (by show (0 ≤ (0 : Int32).toInt ∧ (0 : Int32).toInt ≤ 1) ∧ kt_r fr 81 (-1) 80; exact ⟨by decide, hfr⟩) rfl
    · have d_21 := c_21
      simp only [kt_lt, kt_le, kt_eq, kt_c0, kt_c1, kt_c2, kt_c3, kt_c4, kt_c8, kt_c9, kt_cm1, kt_c81, kt_c40, kt_c7, kt_c5, kt_c6, kt_c512, kt_c10, kt_c10000] at d_21
      refine lv_aload_n hx hb dX10_needed_24 rfl (lv_at hl 0 rfl) ?_
      refine va_get (D := D) (ci := 10) (C := RX10) (T := TX10) (N := 6) hx hb hts iw_X10_needed_X10 hown hK hP 0 rfl rfl 4 (by decide) (hts (.fieldLink RX10 46 "KingTable" "hold" "LKingTable$Ring;") (kt_wp_X10_needed__X10_needed_r1 kt_wm1)) (fun _ h9 => h9) rfl dX10_needed_25 ?_
      refine lv_aload_n hx hb dX10_needed_28 rfl (lv_at hl 0 rfl) ?_
      refine va_get (D := D) (ci := 10) (C := RX10) (T := TX10) (N := 6) hx hb hts iw_X10_needed_X10 hown hK hP 0 rfl rfl 3 (by decide) (hts (.fieldLink RX10 37 "KingTable" "play" "LKingTable$Play;") (kt_wp_X10_needed__X10_needed_r1 kt_wm2)) (fun _ h9 => h9) rfl dX10_needed_29 ?_
      refine va_getN (D := D) (ci := 4) (C := RX4) (T := TX4) (N := 5) hx hb hts iw_X10_needed_X4 hown hK hP 1 rfl rfl 2 (by decide) (va_Nw.use (w := .fieldLinkNest RX10 139 "KingTable$Play" "now" "LKingTable$Stand;" "KingTable") rfl (hN _ (by decide +kernel))) (fun _ h9 => h9) rfl dX10_needed_32 ?_
      refine lv_iconst (v := (-1)) hx hb dX10_needed_35 (by decide) ?_
      refine kt_bi (wc := [(ho, .inr (5, [.ref ru, .ref ora, .ref osa])), (ora, .inl (cI, 81, .inl fr)), (osa, .inl (cZ, 81, .inl fz)), (ru, .inr (6, [.ref la, .ref gr, .ref rk, .ref rs, .ref rt, .int tt, .int kg, .ref rv, .int vc])), (gr, .inr (0, [.ref gt, .ref gg, .ref gn, .int gs, .int gm])), (gn, .inl (cI, 324, .inl nb)), (gg, .inl (cZ, 81, .inl gl)), (nw, .inr (8, [.ref sf, .ref sh, .int tu])), (sf, .inl (cI, 40, .inl ff)), (sh, .inl (cI, 81, .inl fh)), (rs, .inl (cI, 40, .inl fs))]) (wr := [(kt, .inr (10, [.ref to, .ref la, .ref ru, .ref pl, .ref ho, .ref so])), (pl, .inr (4, [.ref la, .ref ru, .ref nw, .ref lo, .int st]))]) [2, 3, 4, 5, 6, 7, 8, 9, 10, 11, 12] [0, 1] hP hD hS hA rfl rfl (by decide) (by decide) (by decide) (fun hPc hDc => va_runV (As := [.ref nw, .int (-1)]) (rest := []) ⟨hx, hb, hml, hown, hts⟩ (c_X5_holds l D cI cZ cB H.size ho ora osa fr fz ru la gr rk rs rt rv tt kg vc gt gg gn gs gm nb gl nw sf sh tu ff fh fs (-1) (by first | assumption | omega | rfl | decide) (by first | assumption | omega | rfl | decide) (by first | assumption | omega | rfl | decide) (by first | assumption | omega | rfl | decide) (by first | assumption | omega | rfl | decide) (by first | assumption | omega | rfl | decide) (by first | assumption | omega | rfl | decide) (by first | assumption | omega | rfl | decide)) (cwV 2 hts gX10_needed_X5_holds rfl rfl rfl (by decide +kernel) ⟨Nat.le_of_ble_eq_true rfl, Nat.le_of_ble_eq_true rfl⟩) (kt_preV hN hK hPc hDc 0 (ci := 5) (q := (RX5, TX5, 3)) rfl rfl) rfl rfl hl.1 rfl (lv_room (Nat.le_of_ble_eq_true rfl)) dX10_needed_36 ⟨Nat.le_of_ble_eq_true rfl, Nat.le_of_ble_eq_true rfl⟩) (fun r_36 u_ H locs hw_36 hP hD hS => ?_)
      obtain ⟨g1_36, g2_36⟩ := u_
      have hP : va_P D vwCl [(kt, .inr (10, [.ref to, .ref la, .ref ru, .ref pl, .ref ho, .ref so])), (pl, .inr (4, [.ref la, .ref ru, .ref nw, .ref lo, .int st])), (ho, .inr (5, [.ref ru, .ref ora, .ref osa])), (ora, .inl (cI, 81, .inl g1_36)), (osa, .inl (cZ, 81, .inl g2_36)), (ru, .inr (6, [.ref la, .ref gr, .ref rk, .ref rs, .ref rt, .int tt, .int kg, .ref rv, .int vc])), (gr, .inr (0, [.ref gt, .ref gg, .ref gn, .int gs, .int gm])), (gn, .inl (cI, 324, .inl nb)), (gg, .inl (cZ, 81, .inl gl)), (nw, .inr (8, [.ref sf, .ref sh, .int tu])), (sf, .inl (cI, 40, .inl ff)), (sh, .inl (cI, 81, .inl fh)), (rs, .inl (cI, 40, .inl fs))] H := hP.sub [0, 1, 2, 3, 4, 5, 6, 7, 8, 9, 10, 11, 12] rfl
      have hD : va_D A [(kt, .inr (10, [.ref to, .ref la, .ref ru, .ref pl, .ref ho, .ref so])), (pl, .inr (4, [.ref la, .ref ru, .ref nw, .ref lo, .int st])), (ho, .inr (5, [.ref ru, .ref ora, .ref osa])), (ora, .inl (cI, 81, .inl g1_36)), (osa, .inl (cZ, 81, .inl g2_36)), (ru, .inr (6, [.ref la, .ref gr, .ref rk, .ref rs, .ref rt, .int tt, .int kg, .ref rv, .int vc])), (gr, .inr (0, [.ref gt, .ref gg, .ref gn, .int gs, .int gm])), (gn, .inl (cI, 324, .inl nb)), (gg, .inl (cZ, 81, .inl gl)), (nw, .inr (8, [.ref sf, .ref sh, .int tu])), (sf, .inl (cI, 40, .inl ff)), (sh, .inl (cI, 81, .inl fh)), (rs, .inl (cI, 40, .inl fs))] := hD.sub [0, 1, 2, 3, 4, 5, 6, 7, 8, 9, 10, 11, 12] (by decide) rfl
      try dsimp only at hw_36
      obtain ⟨hr_, hfr⟩ := hw_36
      refine lv_if_eq (tgt := 64) hx hb dX10_needed_39 (by decide) (fun c_39 => ?_) (fun c_39 => ?_)
      · have d_39 := c_39
        simp only [kt_lt, kt_le, kt_eq, kt_c0, kt_c1, kt_c2, kt_c3, kt_c4, kt_c8, kt_c9, kt_cm1, kt_c81, kt_c40, kt_c7, kt_c5, kt_c6, kt_c512, kt_c10, kt_c10000] at d_39
        refine lv_iconst (v := 0) hx hb dX10_needed_64 (by decide) ?_
        exact kt_rz (g1_36, g2_36) hx hb hr hlk hS dX10_needed_65 hP hD (by show (0 ≤ (0 : Int32).toInt ∧ (0 : Int32).toInt ≤ 1) ∧ kt_r g1_36 81 (-1) 80; exact ⟨by decide, hfr⟩) rfl
      · have d_39 := c_39
        simp only [kt_lt, kt_le, kt_eq, kt_c0, kt_c1, kt_c2, kt_c3, kt_c4, kt_c8, kt_c9, kt_cm1, kt_c81, kt_c40, kt_c7, kt_c5, kt_c6, kt_c512, kt_c10, kt_c10000] at d_39
        refine lv_aload_n hx hb dX10_needed_42 rfl (lv_at hl 0 rfl) ?_
        refine va_get (D := D) (ci := 10) (C := RX10) (T := TX10) (N := 6) hx hb hts iw_X10_needed_X10 hown hK hP 0 rfl rfl 4 (by decide) (hts (.fieldLink RX10 46 "KingTable" "hold" "LKingTable$Ring;") (kt_wp_X10_needed__X10_needed_r1 kt_wm1)) (fun _ h9 => h9) rfl dX10_needed_43 ?_
        refine lv_aload_n hx hb dX10_needed_46 rfl (lv_at hl 0 rfl) ?_
        refine va_get (D := D) (ci := 10) (C := RX10) (T := TX10) (N := 6) hx hb hts iw_X10_needed_X10 hown hK hP 0 rfl rfl 3 (by decide) (hts (.fieldLink RX10 37 "KingTable" "play" "LKingTable$Play;") (kt_wp_X10_needed__X10_needed_r1 kt_wm2)) (fun _ h9 => h9) rfl dX10_needed_47 ?_
        refine va_getN (D := D) (ci := 4) (C := RX4) (T := TX4) (N := 5) hx hb hts iw_X10_needed_X4 hown hK hP 1 rfl rfl 2 (by decide) (va_Nw.use (w := .fieldLinkNest RX10 139 "KingTable$Play" "now" "LKingTable$Stand;" "KingTable") rfl (hN _ (by decide +kernel))) (fun _ h9 => h9) rfl dX10_needed_50 ?_
        refine lv_iload_n hx hb dX10_needed_53 rfl (lv_at hl 1 rfl) ?_
        refine kt_bi (wc := [(ho, .inr (5, [.ref ru, .ref ora, .ref osa])), (ora, .inl (cI, 81, .inl g1_36)), (osa, .inl (cZ, 81, .inl g2_36)), (ru, .inr (6, [.ref la, .ref gr, .ref rk, .ref rs, .ref rt, .int tt, .int kg, .ref rv, .int vc])), (gr, .inr (0, [.ref gt, .ref gg, .ref gn, .int gs, .int gm])), (gn, .inl (cI, 324, .inl nb)), (gg, .inl (cZ, 81, .inl gl)), (nw, .inr (8, [.ref sf, .ref sh, .int tu])), (sf, .inl (cI, 40, .inl ff)), (sh, .inl (cI, 81, .inl fh)), (rs, .inl (cI, 40, .inl fs))]) (wr := [(kt, .inr (10, [.ref to, .ref la, .ref ru, .ref pl, .ref ho, .ref so])), (pl, .inr (4, [.ref la, .ref ru, .ref nw, .ref lo, .int st]))]) [2, 3, 4, 5, 6, 7, 8, 9, 10, 11, 12] [0, 1] hP hD hS hA rfl rfl (by decide) (by decide) (by decide) (fun hPc hDc => va_runV (As := [.ref nw, .int p1]) (rest := []) ⟨hx, hb, hml, hown, hts⟩ (c_X5_holds l D cI cZ cB H.size ho ora osa g1_36 g2_36 ru la gr rk rs rt rv tt kg vc gt gg gn gs gm nb gl nw sf sh tu ff fh fs p1 (by first | assumption | omega | rfl | decide) (by first | assumption | omega | rfl | decide) (by first | assumption | omega | rfl | decide) (by first | assumption | omega | rfl | decide) (by first | assumption | omega | rfl | decide) (by first | assumption | omega | rfl | decide) (by first | assumption | omega | rfl | decide) (by first | assumption | omega | rfl | decide)) (cwV 2 hts gX10_needed_X5_holds rfl rfl rfl (by decide +kernel) ⟨Nat.le_of_ble_eq_true rfl, Nat.le_of_ble_eq_true rfl⟩) (kt_preV hN hK hPc hDc 0 (ci := 5) (q := (RX5, TX5, 3)) rfl rfl) rfl rfl hl.1 rfl (lv_room (Nat.le_of_ble_eq_true rfl)) dX10_needed_54 ⟨Nat.le_of_ble_eq_true rfl, Nat.le_of_ble_eq_true rfl⟩) (fun r_54 u_ H locs hw_54 hP hD hS => ?_)
        obtain ⟨g1_54, g2_54⟩ := u_
        have hP : va_P D vwCl [(kt, .inr (10, [.ref to, .ref la, .ref ru, .ref pl, .ref ho, .ref so])), (pl, .inr (4, [.ref la, .ref ru, .ref nw, .ref lo, .int st])), (ho, .inr (5, [.ref ru, .ref ora, .ref osa])), (ora, .inl (cI, 81, .inl g1_54)), (osa, .inl (cZ, 81, .inl g2_54)), (ru, .inr (6, [.ref la, .ref gr, .ref rk, .ref rs, .ref rt, .int tt, .int kg, .ref rv, .int vc])), (gr, .inr (0, [.ref gt, .ref gg, .ref gn, .int gs, .int gm])), (gn, .inl (cI, 324, .inl nb)), (gg, .inl (cZ, 81, .inl gl)), (nw, .inr (8, [.ref sf, .ref sh, .int tu])), (sf, .inl (cI, 40, .inl ff)), (sh, .inl (cI, 81, .inl fh)), (rs, .inl (cI, 40, .inl fs))] H := hP.sub [0, 1, 2, 3, 4, 5, 6, 7, 8, 9, 10, 11, 12] rfl
        have hD : va_D A [(kt, .inr (10, [.ref to, .ref la, .ref ru, .ref pl, .ref ho, .ref so])), (pl, .inr (4, [.ref la, .ref ru, .ref nw, .ref lo, .int st])), (ho, .inr (5, [.ref ru, .ref ora, .ref osa])), (ora, .inl (cI, 81, .inl g1_54)), (osa, .inl (cZ, 81, .inl g2_54)), (ru, .inr (6, [.ref la, .ref gr, .ref rk, .ref rs, .ref rt, .int tt, .int kg, .ref rv, .int vc])), (gr, .inr (0, [.ref gt, .ref gg, .ref gn, .int gs, .int gm])), (gn, .inl (cI, 324, .inl nb)), (gg, .inl (cZ, 81, .inl gl)), (nw, .inr (8, [.ref sf, .ref sh, .int tu])), (sf, .inl (cI, 40, .inl ff)), (sh, .inl (cI, 81, .inl fh)), (rs, .inl (cI, 40, .inl fs))] := hD.sub [0, 1, 2, 3, 4, 5, 6, 7, 8, 9, 10, 11, 12] (by decide) rfl
        try dsimp only at hw_54
        obtain ⟨hr_, hfr⟩ := hw_54
        refine lv_if_ne (tgt := 64) hx hb dX10_needed_57 (by decide) (fun c_57 => ?_) (fun c_57 => ?_)
        · have d_57 := c_57
          simp only [kt_lt, kt_le, kt_eq, kt_c0, kt_c1, kt_c2, kt_c3, kt_c4, kt_c8, kt_c9, kt_cm1, kt_c81, kt_c40, kt_c7, kt_c5, kt_c6, kt_c512, kt_c10, kt_c10000] at d_57
          refine lv_iconst (v := 0) hx hb dX10_needed_64 (by decide) ?_
          exact kt_rz (g1_54, g2_54) hx hb hr hlk hS dX10_needed_65 hP hD (by show (0 ≤ (0 : Int32).toInt ∧ (0 : Int32).toInt ≤ 1) ∧ kt_r g1_54 81 (-1) 80; exact ⟨by decide, hfr⟩) rfl
        · have d_57 := c_57
          simp only [kt_lt, kt_le, kt_eq, kt_c0, kt_c1, kt_c2, kt_c3, kt_c4, kt_c8, kt_c9, kt_cm1, kt_c81, kt_c40, kt_c7, kt_c5, kt_c6, kt_c512, kt_c10, kt_c10000] at d_57
          refine lv_iconst (v := 1) hx hb dX10_needed_60 (by decide) ?_
          refine lv_goto (tgt := 65) hx hb dX10_needed_61 (by decide) ?_
          exact kt_rz (g1_54, g2_54) hx hb hr hlk hS dX10_needed_65 hP hD (by show (0 ≤ (1 : Int32).toInt ∧ (1 : Int32).toInt ≤ 1) ∧ kt_r g1_54 81 (-1) 80; exact ⟨by decide, hfr⟩) rfl

/-- nothing is made without a play -/
def kt_cst (st : Int) (n : Nat) : Nat := if st = 0 then 0 else n

theorem iw_X10_worth_X10 : ∀ w ∈ wsX100, w ∈ wsX10_worth := fun _ h => kt_wp_X10_worth__X100 h
theorem iw_X10_worth_X4 : ∀ w ∈ wsX40, w ∈ wsX10_worth := fun _ h => kt_wp_X10_worth__X40 h
theorem iw_X10_deep_X10 : ∀ w ∈ wsX100, w ∈ wsX10_deep := fun _ h => kt_wp_X10_deep__X100 h
theorem iw_X10_deep_X4 : ∀ w ∈ wsX40, w ∈ wsX10_deep := fun _ h => kt_wp_X10_deep__X40 h
theorem iw_X10_best_X10 : ∀ w ∈ wsX100, w ∈ wsX10_best := fun _ h => kt_wp_X10_best__X100 h
theorem iw_X10_best_X4 : ∀ w ∈ wsX40, w ∈ wsX10_best := fun _ h => kt_wp_X10_best__X40 h
theorem iw_X10_count_X10 : ∀ w ∈ wsX100, w ∈ wsX10_count := fun _ h => kt_wp_X10_count__X100 h
theorem iw_X10_most_X10 : ∀ w ∈ wsX100, w ∈ wsX10_most := fun _ h => kt_wp_X10_most__X100 h
theorem iw_X10_stand_X10 : ∀ w ∈ wsX100, w ∈ wsX10_stand := fun _ h => kt_wp_X10_stand__X100 h
theorem iw_X10_solve_X10 : ∀ w ∈ wsX100, w ∈ wsX10_solve := fun _ h => kt_wp_X10_solve__X100 h