theorem iw_X4_isThere_X4 : ∀ w ∈ wsX40, w ∈ wsX4_isThere := fun _ h => kt_wp_X4_isThere__X40 h
set_option maxHeartbeats 4000000 in
set_option maxRecDepth 100000 in
theorem c_X4_isThere (l : Launch) (D : va_G) (cI cZ cB : ClassId) (sz : Nat) (pl : Nat) (la : Nat) (ru : Nat) (nw : Nat) (lo : Nat) (st : Int32) : kt_Mi l yX4_isThere wsX4_isThere { frames := 0, cells := 0, slots := 0, locals := 0 } D (kt_ty cI cZ cB) [.ref pl] sz [(pl, .inr (4, [.ref la, .ref ru, .ref nw, .ref lo, .int st]))] (fun (r : Int32) (u : Unit) => kt_B r (¬ st.toInt = 0)) (fun (u : Unit) => [(pl, .inr (4, [.ref la, .ref ru, .ref nw, .ref lo, .int st]))]) 0 0 := by
  refine kt_Mi.of (cc := cX4_isThere) (maxL := 1) (ret := some .boolean) (by decide) rfl (Nat.le_of_ble_eq_true rfl) ?_
  intro p e s m below meth c A ls H hAt hP hD hS hl
  obtain ⟨hx, hb, hr, hml, hown, hts, hN, hK, hlk, hnm, hA⟩ := hAt
  have hl : lv_has ls 1 [(0, .ref pl)] := hl
  have hown : s.vm.findClass RX4 = some m.cls := hown
  refine lv_aload_n hx hb dX4_isThere_0 rfl (lv_at hl 0 rfl) ?_
  refine va_get (D := D) (ci := 4) (C := RX4) (T := TX4) (N := 5) hx hb hts iw_X4_isThere_X4 hown hK hP 0 rfl rfl 4 (by decide) (hts (.fieldLink RX4 25 "KingTable$Play" "state" "I") (List.mem_cons_of_mem _ (List.mem_append_left _ (List.Mem.head _)))) (fun _ h9 => h9) rfl dX4_isThere_1 ?_
  refine lv_if_eq (tgt := 11) hx hb dX4_isThere_4 (by decide) (fun c_4 => ?_) (fun c_4 => ?_)
  · have d_4 := c_4
    simp only [kt_lt, kt_le, kt_eq, kt_c0, kt_c1, kt_c2, kt_c3, kt_c4, kt_c8, kt_c9, kt_cm1, kt_c81, kt_c40, kt_c7, kt_c5, kt_c6, kt_c512, kt_c10, kt_c10000] at d_4
    refine lv_iconst (v := 0) hx hb dX4_isThere_11 (by decide) ?_
    exact kt_rz () hx hb hr hlk hS dX4_isThere_12 hP hD (by show kt_B (0 : Int32) (¬ st.toInt = 0); first | exact Or.inl ⟨rfl, by omega⟩ | exact Or.inr ⟨rfl, by omega⟩) rfl
  · have d_4 := c_4
    simp only [kt_lt, kt_le, kt_eq, kt_c0, kt_c1, kt_c2, kt_c3, kt_c4, kt_c8, kt_c9, kt_cm1, kt_c81, kt_c40, kt_c7, kt_c5, kt_c6, kt_c512, kt_c10, kt_c10000] at d_4
    refine lv_iconst (v := 1) hx hb dX4_isThere_7 (by decide) ?_
    refine lv_goto (tgt := 12) hx hb dX4_isThere_8 (by decide) ?_
    exact kt_rz () hx hb hr hlk hS dX4_isThere_12 hP hD (by show kt_B (1 : Int32) (¬ st.toInt = 0); first | exact Or.inl ⟨rfl, by omega⟩ | exact Or.inr ⟨rfl, by omega⟩) rfl

theorem iw_X4_sideOnTurn_X4 : ∀ w ∈ wsX40, w ∈ wsX4_sideOnTurn := fun _ h => kt_wp_X4_sideOnTurn__X40 h
theorem iw_X4_sideOnTurn_X8 : ∀ w ∈ wsX80, w ∈ wsX4_sideOnTurn := fun _ h => kt_wp_X4_sideOnTurn__X80 h
theorem iw_X3_clear_X3 : ∀ w ∈ wsX30, w ∈ wsX3_clear := fun _ h => kt_wp_X3_clear__X30 h
set_option maxHeartbeats 4000000 in
set_option maxRecDepth 100000 in
theorem c_X3_clear (l : Launch) (D : va_G) (cI cZ cB : ClassId) (sz : Nat) (lo : Nat) (l0 : Nat) (l1 : Nat) (l2 : Nat) (l3 : Nat) (l4 : Nat) (l5 : Nat) (l6 : Nat) (dn : Int32) (kn : Int32) : kt_Mv l yX3_clear wsX3_clear { frames := 0, cells := 0, slots := 0, locals := 0 } D (kt_ty cI cZ cB) [.ref lo] sz [(lo, .inr (3, [.ref l0, .ref l1, .ref l2, .ref l3, .ref l4, .ref l5, .ref l6, .int dn, .int kn]))] (fun (u : Unit) => True) (fun (u : Unit) => [(lo, .inr (3, [.ref l0, .ref l1, .ref l2, .ref l3, .ref l4, .ref l5, .ref l6, .int 0, .int 0]))]) 0 0 := by
  refine kt_Mv.of (cc := cX3_clear) (maxL := 1) (ret := none) (by decide) rfl (Nat.le_of_ble_eq_true rfl) ?_
  intro p e s m below meth c A ls H hAt hP hD hS hl
  obtain ⟨hx, hb, hr, hml, hown, hts, hN, hK, hlk, hnm, hA⟩ := hAt
  have hl : lv_has ls 1 [(0, .ref lo)] := hl
  have hown : s.vm.findClass RX3 = some m.cls := hown
  refine lv_aload_n hx hb dX3_clear_0 rfl (lv_at hl 0 rfl) ?_
  refine lv_iconst (v := 0) hx hb dX3_clear_1 (by decide) ?_
  refine va_put (D := D) (ci := 3) (v := .int 0) (ty := .int) (C := RX3) (T := TX3) (N := 9) hx hb hts iw_X3_clear_X3 tyX3 tyX3_ok nmX3 hown hK hP hD hS 0 rfl rfl 7 (by decide) (hts (.fieldLink RX3 33 "KingTable$Log" "done" "I") (List.mem_cons_of_mem _ (List.mem_append_left _ (List.Mem.head _)))) (fun _ h9 => h9) rfl (by decide +kernel) rfl rfl (Nat.le_of_ble_eq_true rfl) dX3_clear_2 (fun H locs hP hD hS => ?_)
  have hP : va_P D vwCl [(lo, .inr (3, [.ref l0, .ref l1, .ref l2, .ref l3, .ref l4, .ref l5, .ref l6, .int 0, .int kn]))] H := hP
  have hD : va_D A [(lo, .inr (3, [.ref l0, .ref l1, .ref l2, .ref l3, .ref l4, .ref l5, .ref l6, .int 0, .int kn]))] := hD
  refine lv_aload_n hx hb dX3_clear_5 rfl (lv_at hl 0 rfl) ?_
  refine lv_iconst (v := 0) hx hb dX3_clear_6 (by decide) ?_
  refine va_put (D := D) (ci := 3) (v := .int 0) (ty := .int) (C := RX3) (T := TX3) (N := 9) hx hb hts iw_X3_clear_X3 tyX3 tyX3_ok nmX3 hown hK hP hD hS 0 rfl rfl 8 (by decide) (hts (.fieldLink RX3 37 "KingTable$Log" "known" "I") (List.mem_cons_of_mem _ (List.mem_append_left _ (List.mem_cons_of_mem _ (List.Mem.head _))))) (fun _ h9 => h9) rfl (by decide +kernel) rfl rfl (Nat.le_of_ble_eq_true rfl) dX3_clear_7 (fun H locs hP hD hS => ?_)
  have hP : va_P D vwCl [(lo, .inr (3, [.ref l0, .ref l1, .ref l2, .ref l3, .ref l4, .ref l5, .ref l6, .int 0, .int 0]))] H := hP
  have hD : va_D A [(lo, .inr (3, [.ref l0, .ref l1, .ref l2, .ref l3, .ref l4, .ref l5, .ref l6, .int 0, .int 0]))] := hD
  exact kt_rv () hx hb hr hlk hS dX3_clear_10 hP hD (by show True; trivial)

theorem iw_X6_dismiss_X6 : ∀ w ∈ wsX60, w ∈ wsX6_dismiss := fun _ h => kt_wp_X6_dismiss__X60 h
set_option maxHeartbeats 4000000 in
set_option maxRecDepth 100000 in
theorem c_X6_dismiss (l : Launch) (D : va_G) (cI cZ cB : ClassId) (sz : Nat) (ru : Nat) (la : Nat) (gr : Nat) (rk : Nat) (rs : Nat) (rt : Nat) (rv : Nat) (tt : Int32) (kg : Int32) (vc : Int32) : kt_Mv l yX6_dismiss wsX6_dismiss { frames := 0, cells := 0, slots := 0, locals := 0 } D (kt_ty cI cZ cB) [.ref ru] sz [(ru, .inr (6, [.ref la, .ref gr, .ref rk, .ref rs, .ref rt, .int tt, .int kg, .ref rv, .int vc]))] (fun (u : Unit) => True) (fun (u : Unit) => [(ru, .inr (6, [.ref la, .ref gr, .ref rk, .ref rs, .ref rt, .int 0, .int (-1), .ref rv, .int vc]))]) 0 0 := by
  refine kt_Mv.of (cc := cX6_dismiss) (maxL := 1) (ret := none) (by decide) rfl (Nat.le_of_ble_eq_true rfl) ?_
  intro p e s m below meth c A ls H hAt hP hD hS hl
  obtain ⟨hx, hb, hr, hml, hown, hts, hN, hK, hlk, hnm, hA⟩ := hAt
  have hl : lv_has ls 1 [(0, .ref ru)] := hl
  have hown : s.vm.findClass RX6 = some m.cls := hown
  refine lv_aload_n hx hb dX6_dismiss_0 rfl (lv_at hl 0 rfl) ?_
  refine lv_iconst (v := 0) hx hb dX6_dismiss_1 (by decide) ?_
  refine va_put (D := D) (ci := 6) (v := .int 0) (ty := .int) (C := RX6) (T := TX6) (N := 9) hx hb hts iw_X6_dismiss_X6 tyX6 tyX6_ok nmX6 hown hK hP hD hS 0 rfl rfl 5 (by decide) (hts (.fieldLink RX6 40 "KingTable$Rules" "total" "I") (List.mem_cons_of_mem _ (List.mem_append_left _ (List.Mem.head _)))) (fun _ h9 => h9) rfl (by decide +kernel) rfl rfl (Nat.le_of_ble_eq_true rfl) dX6_dismiss_2 (fun H locs hP hD hS => ?_)
  have hP : va_P D vwCl [(ru, .inr (6, [.ref la, .ref gr, .ref rk, .ref rs, .ref rt, .int 0, .int kg, .ref rv, .int vc]))] H := hP
  have hD : va_D A [(ru, .inr (6, [.ref la, .ref gr, .ref rk, .ref rs, .ref rt, .int 0, .int kg, .ref rv, .int vc]))] := hD
  refine lv_aload_n hx hb dX6_dismiss_5 rfl (lv_at hl 0 rfl) ?_
  refine lv_iconst (v := (-1)) hx hb dX6_dismiss_6 (by decide) ?_
  refine va_put (D := D) (ci := 6) (v := .int (-1)) (ty := .int) (C := RX6) (T := TX6) (N := 9) hx hb hts iw_X6_dismiss_X6 tyX6 tyX6_ok nmX6 hown hK hP hD hS 0 rfl rfl 6 (by decide) (hts (.fieldLink RX6 29 "KingTable$Rules" "king" "I") (List.mem_cons_of_mem _ (List.mem_append_left _ (List.mem_cons_of_mem _ (List.Mem.head _))))) (fun _ h9 => h9) rfl (by decide +kernel) rfl rfl (Nat.le_of_ble_eq_true rfl) dX6_dismiss_7 (fun H locs hP hD hS => ?_)
  have hP : va_P D vwCl [(ru, .inr (6, [.ref la, .ref gr, .ref rk, .ref rs, .ref rt, .int 0, .int (-1), .ref rv, .int vc]))] H := hP
  have hD : va_D A [(ru, .inr (6, [.ref la, .ref gr, .ref rk, .ref rs, .ref rt, .int 0, .int (-1), .ref rv, .int vc]))] := hD
  exact kt_rv () hx hb hr hlk hS dX6_dismiss_10 hP hD (by show True; trivial)

theorem iw_X4_finish_X4 : ∀ w ∈ wsX40, w ∈ wsX4_finish := fun _ h => kt_wp_X4_finish__X40 h
set_option maxHeartbeats 4000000 in
set_option maxRecDepth 100000 in
theorem c_X4_finish (l : Launch) (D : va_G) (cI cZ cB : ClassId) (sz : Nat) (pl : Nat) (st : Int32) (ru : Nat) (la : Nat) (gr : Nat) (rk : Nat) (rs : Nat) (rt : Nat) (rv : Nat) (tt : Int32) (kg : Int32) (vc : Int32) (nw : Nat) (sf : Nat) (sh : Nat) (tu : Int32) (ff : Nat → Int32) (fh : Nat → Int32) (lo : Nat) (l0 : Nat) (l1 : Nat) (l2 : Nat) (l3 : Nat) (l4 : Nat) (l5 : Nat) (l6 : Nat) (dn : Int32) (kn : Int32) : kt_Mv l yX4_finish wsX4_finish { frames := 2, cells := 0, slots := 0, locals := 43 } D (kt_ty cI cZ cB) [.ref pl] sz [(pl, .inr (4, [.ref la, .ref ru, .ref nw, .ref lo, .int st])), (ru, .inr (6, [.ref la, .ref gr, .ref rk, .ref rs, .ref rt, .int tt, .int kg, .ref rv, .int vc])), (nw, .inr (8, [.ref sf, .ref sh, .int tu])), (sf, .inl (cI, 40, .inl ff)), (sh, .inl (cI, 81, .inl fh)), (lo, .inr (3, [.ref l0, .ref l1, .ref l2, .ref l3, .ref l4, .ref l5, .ref l6, .int dn, .int kn]))] (fun (u : Unit) => True) (fun (u : Unit) => [(pl, .inr (4, [.ref la, .ref ru, .ref nw, .ref lo, .int 0])), (ru, .inr (6, [.ref la, .ref gr, .ref rk, .ref rs, .ref rt, .int 0, .int (-1), .ref rv, .int vc])), (nw, .inr (8, [.ref sf, .ref sh, .int 0])), (sf, .inl (cI, 40, .inl (fun _ => (-1)))), (sh, .inl (cI, 81, .inl (fun _ => (-1)))), (lo, .inr (3, [.ref l0, .ref l1, .ref l2, .ref l3, .ref l4, .ref l5, .ref l6, .int 0, .int 0]))]) 0 0 := by
  refine kt_Mv.of (cc := cX4_finish) (maxL := 1) (ret := none) (by decide) rfl (Nat.le_of_ble_eq_true rfl) ?_
  intro p e s m below meth c A ls H hAt hP hD hS hl
  obtain ⟨hx, hb, hr, hml, hown, hts, hN, hK, hlk, hnm, hA⟩ := hAt
  have hl : lv_has ls 1 [(0, .ref pl)] := hl
  have hown : s.vm.findClass RX4 = some m.cls := hown
  refine lv_aload_n hx hb dX4_finish_0 rfl (lv_at hl 0 rfl) ?_
  refine lv_iconst (v := 0) hx hb dX4_finish_1 (by decide) ?_
  refine va_put (D := D) (ci := 4) (v := .int 0) (ty := .int) (C := RX4) (T := TX4) (N := 5) hx hb hts iw_X4_finish_X4 tyX4 tyX4_ok nmX4 hown hK hP hD hS 0 rfl rfl 4 (by decide) (hts (.fieldLink RX4 25 "KingTable$Play" "state" "I") (kt_wp_X4_finish__X4_finish_r1 kt_wm0)) (fun _ h9 => h9) rfl (by decide +kernel) rfl rfl (Nat.le_of_ble_eq_true rfl) dX4_finish_2 (fun H locs hP hD hS => ?_)
  have hP : va_P D vwCl [(pl, .inr (4, [.ref la, .ref ru, .ref nw, .ref lo, .int 0])), (ru, .inr (6, [.ref la, .ref gr, .ref rk, .ref rs, .ref rt, .int tt, .int kg, .ref rv, .int vc])), (nw, .inr (8, [.ref sf, .ref sh, .int tu])), (sf, .inl (cI, 40, .inl ff)), (sh, .inl (cI, 81, .inl fh)), (lo, .inr (3, [.ref l0, .ref l1, .ref l2, .ref l3, .ref l4, .ref l5, .ref l6, .int dn, .int kn]))] H := hP
  have hD : va_D A [(pl, .inr (4, [.ref la, .ref ru, .ref nw, .ref lo, .int 0])), (ru, .inr (6, [.ref la, .ref gr, .ref rk, .ref rs, .ref rt, .int tt, .int kg, .ref rv, .int vc])), (nw, .inr (8, [.ref sf, .ref sh, .int tu])), (sf, .inl (cI, 40, .inl ff)), (sh, .inl (cI, 81, .inl fh)), (lo, .inr (3, [.ref l0, .ref l1, .ref l2, .ref l3, .ref l4, .ref l5, .ref l6, .int dn, .int kn]))] := hD
  refine lv_aload_n hx hb dX4_finish_5 rfl (lv_at hl 0 rfl) ?_
  refine va_get (D := D) (ci := 4) (C := RX4) (T := TX4) (N := 5) hx hb hts iw_X4_finish_X4 hown hK hP 0 rfl rfl 1 (by decide) (hts (.fieldLink RX4 33 "KingTable$Play" "rules" "LKingTable$Rules;") (kt_wp_X4_finish__X4_finish_r1 kt_wm1)) (fun _ h9 => h9) rfl dX4_finish_6 ?_
  refine kt_bv (wc := [(ru, .inr (6, [.ref la, .ref gr, .ref rk, .ref rs, .ref rt, .int tt, .int kg, .ref rv, .int vc]))]) (wr := [(pl, .inr (4, [.ref la, .ref ru, .ref nw, .ref lo, .int 0])), (nw, .inr (8, [.ref sf, .ref sh, .int tu])), (sf, .inl (cI, 40, .inl ff)), (sh, .inl (cI, 81, .inl fh)), (lo, .inr (3, [.ref l0, .ref l1, .ref l2, .ref l3, .ref l4, .ref l5, .ref l6, .int dn, .int kn]))]) [1] [0, 2, 3, 4, 5] hP hD hS hA rfl rfl (by decide) (by decide) (by decide) (fun hPc hDc => va_runV (As := []) (rest := []) ⟨hx, hb, hml, hown, hts⟩ (c_X6_dismiss l D cI cZ cB H.size ru la gr rk rs rt rv tt kg vc ) (cwV 0 hts gX4_finish_X6_dismiss rfl rfl rfl (by decide +kernel) ⟨Nat.le_of_ble_eq_true rfl, Nat.le_of_ble_eq_true rfl⟩) (kt_preV hN hK hPc hDc 0 (ci := 6) (q := (RX6, TX6, 9)) rfl rfl) rfl rfl hl.1 rfl (lv_room (Nat.le_of_ble_eq_true rfl)) dX4_finish_9 ⟨Nat.le_of_ble_eq_true rfl, Nat.le_of_ble_eq_true rfl⟩) (fun u_ H locs hw_9 hP hD hS => ?_)
  have hP : va_P D vwCl [(pl, .inr (4, [.ref la, .ref ru, .ref nw, .ref lo, .int 0])), (ru, .inr (6, [.ref la, .ref gr, .ref rk, .ref rs, .ref rt, .int 0, .int (-1), .ref rv, .int vc])), (nw, .inr (8, [.ref sf, .ref sh, .int tu])), (sf, .inl (cI, 40, .inl ff)), (sh, .inl (cI, 81, .inl fh)), (lo, .inr (3, [.ref l0, .ref l1, .ref l2, .ref l3, .ref l4, .ref l5, .ref l6, .int dn, .int kn]))] H := hP.sub [0, 5, 1, 2, 3, 4] rfl
  have hD : va_D A [(pl, .inr (4, [.ref la, .ref ru, .ref nw, .ref lo, .int 0])), (ru, .inr (6, [.ref la, .ref gr, .ref rk, .ref rs, .ref rt, .int 0, .int (-1), .ref rv, .int vc])), (nw, .inr (8, [.ref sf, .ref sh, .int tu])), (sf, .inl (cI, 40, .inl ff)), (sh, .inl (cI, 81, .inl fh)), (lo, .inr (3, [.ref l0, .ref l1, .ref l2, .ref l3, .ref l4, .ref l5, .ref l6, .int dn, .int kn]))] := hD.sub [0, 5, 1, 2, 3, 4] (by decide) rfl
  refine lv_aload_n hx hb dX4_finish_12 rfl (lv_at hl 0 rfl) ?_
  refine va_get (D := D) (ci := 4) (C := RX4) (T := TX4) (N := 5) hx hb hts iw_X4_finish_X4 hown hK hP 0 rfl rfl 2 (by decide) (hts (.fieldLink RX4 12 "KingTable$Play" "now" "LKingTable$Stand;") (kt_wp_X4_finish__X4_finish_r1 kt_wm2)) (fun _ h9 => h9) rfl dX4_finish_13 ?_
  refine kt_bv (wc := [(nw, .inr (8, [.ref sf, .ref sh, .int tu])), (sf, .inl (cI, 40, .inl ff)), (sh, .inl (cI, 81, .inl fh))]) (wr := [(pl, .inr (4, [.ref la, .ref ru, .ref nw, .ref lo, .int 0])), (ru, .inr (6, [.ref la, .ref gr, .ref rk, .ref rs, .ref rt, .int 0, .int (-1), .ref rv, .int vc])), (lo, .inr (3, [.ref l0, .ref l1, .ref l2, .ref l3, .ref l4, .ref l5, .ref l6, .int dn, .int kn]))]) [2, 3, 4] [0, 1, 5] hP hD hS hA rfl rfl (by decide) (by decide) (by decide) (fun hPc hDc => va_runV (As := []) (rest := []) ⟨hx, hb, hml, hown, hts⟩ (c_X8_clear l D cI cZ cB H.size nw sf sh ff fh tu ) (cwV 0 hts gX4_finish_X8_clear rfl rfl rfl (by decide +kernel) ⟨Nat.le_of_ble_eq_true rfl, Nat.le_of_ble_eq_true rfl⟩) (kt_preV hN hK hPc hDc 0 (ci := 8) (q := (RX8, TX8, 3)) rfl rfl) rfl rfl hl.1 rfl (lv_room (Nat.le_of_ble_eq_true rfl)) dX4_finish_16 ⟨Nat.le_of_ble_eq_true rfl, Nat.le_of_ble_eq_true rfl⟩) (fun u_ H locs hw_16 hP hD hS => ?_)
  have hP : va_P D vwCl [(pl, .inr (4, [.ref la, .ref ru, .ref nw, .ref lo, .int 0])), (ru, .inr (6, [.ref la, .ref gr, .ref rk, .ref rs, .ref rt, .int 0, .int (-1), .ref rv, .int vc])), (nw, .inr (8, [.ref sf, .ref sh, .int 0])), (sf, .inl (cI, 40, .inl (fun _ => (-1)))), (sh, .inl (cI, 81, .inl (fun _ => (-1)))), (lo, .inr (3, [.ref l0, .ref l1, .ref l2, .ref l3, .ref l4, .ref l5, .ref l6, .int dn, .int kn]))] H := hP.sub [0, 1, 3, 4, 5, 2] rfl
  have hD : va_D A [(pl, .inr (4, [.ref la, .ref ru, .ref nw, .ref lo, .int 0])), (ru, .inr (6, [.ref la, .ref gr, .ref rk, .ref rs, .ref rt, .int 0, .int (-1), .ref rv, .int vc])), (nw, .inr (8, [.ref sf, .ref sh, .int 0])), (sf, .inl (cI, 40, .inl (fun _ => (-1)))), (sh, .inl (cI, 81, .inl (fun _ => (-1)))), (lo, .inr (3, [.ref l0, .ref l1, .ref l2, .ref l3, .ref l4, .ref l5, .ref l6, .int dn, .int kn]))] := hD.sub [0, 1, 3, 4, 5, 2] (by decide) rfl
  refine lv_aload_n hx hb dX4_finish_19 rfl (lv_at hl 0 rfl) ?_
  refine va_get (D := D) (ci := 4) (C := RX4) (T := TX4) (N := 5) hx hb hts iw_X4_finish_X4 hown hK hP 0 rfl rfl 3 (by decide) (hts (.fieldLink RX4 21 "KingTable$Play" "log" "LKingTable$Log;") (kt_wp_X4_finish__X4_finish_r1 kt_wm3)) (fun _ h9 => h9) rfl dX4_finish_20 ?_
  refine kt_bv (wc := [(lo, .inr (3, [.ref l0, .ref l1, .ref l2, .ref l3, .ref l4, .ref l5, .ref l6, .int dn, .int kn]))]) (wr := [(pl, .inr (4, [.ref la, .ref ru, .ref nw, .ref lo, .int 0])), (ru, .inr (6, [.ref la, .ref gr, .ref rk, .ref rs, .ref rt, .int 0, .int (-1), .ref rv, .int vc])), (nw, .inr (8, [.ref sf, .ref sh, .int 0])), (sf, .inl (cI, 40, .inl (fun _ => (-1)))), (sh, .inl (cI, 81, .inl (fun _ => (-1))))]) [5] [0, 1, 2, 3, 4] hP hD hS hA rfl rfl (by decide) (by decide) (by decide) (fun hPc hDc => va_runV (As := []) (rest := []) ⟨hx, hb, hml, hown, hts⟩ (c_X3_clear l D cI cZ cB H.size lo l0 l1 l2 l3 l4 l5 l6 dn kn ) (cwV 0 hts gX4_finish_X3_clear rfl rfl rfl (by decide +kernel) ⟨Nat.le_of_ble_eq_true rfl, Nat.le_of_ble_eq_true rfl⟩) (kt_preV hN hK hPc hDc 0 (ci := 3) (q := (RX3, TX3, 9)) rfl rfl) rfl rfl hl.1 rfl (lv_room (Nat.le_of_ble_eq_true rfl)) dX4_finish_23 ⟨Nat.le_of_ble_eq_true rfl, Nat.le_of_ble_eq_true rfl⟩) (fun u_ H locs hw_23 hP hD hS => ?_)
  have hP : va_P D vwCl [(pl, .inr (4, [.ref la, .ref ru, .ref nw, .ref lo, .int 0])), (ru, .inr (6, [.ref la, .ref gr, .ref rk, .ref rs, .ref rt, .int 0, .int (-1), .ref rv, .int vc])), (nw, .inr (8, [.ref sf, .ref sh, .int 0])), (sf, .inl (cI, 40, .inl (fun _ => (-1)))), (sh, .inl (cI, 81, .inl (fun _ => (-1)))), (lo, .inr (3, [.ref l0, .ref l1, .ref l2, .ref l3, .ref l4, .ref l5, .ref l6, .int 0, .int 0]))] H := hP.sub [0, 1, 2, 3, 4, 5] rfl
  have hD : va_D A [(pl, .inr (4, [.ref la, .ref ru, .ref nw, .ref lo, .int 0])), (ru, .inr (6, [.ref la, .ref gr, .ref rk, .ref rs, .ref rt, .int 0, .int (-1), .ref rv, .int vc])), (nw, .inr (8, [.ref sf, .ref sh, .int 0])), (sf, .inl (cI, 40, .inl (fun _ => (-1)))), (sh, .inl (cI, 81, .inl (fun _ => (-1)))), (lo, .inr (3, [.ref l0, .ref l1, .ref l2, .ref l3, .ref l4, .ref l5, .ref l6, .int 0, .int 0]))] := hD.sub [0, 1, 2, 3, 4, 5] (by decide) rfl
  exact kt_rv () hx hb hr hlk hS dX4_finish_26 hP hD (by show True; trivial)

theorem iw_X6_enlist_X6 : ∀ w ∈ wsX60, w ∈ wsX6_enlist := fun _ h => kt_wp_X6_enlist__X60 h
theorem iw_X6_enlist_X1 : ∀ w ∈ wsX10, w ∈ wsX6_enlist := fun _ h => kt_wp_X6_enlist__X10 h
theorem iw_X4_settle_X4 : ∀ w ∈ wsX40, w ∈ wsX4_settle := fun _ h => kt_wp_X4_settle__X40 h
theorem iw_X4_settle_X1 : ∀ w ∈ wsX10, w ∈ wsX4_settle := fun _ h => kt_wp_X4_settle__X10 h
theorem iw_X4_start_X4 : ∀ w ∈ wsX40, w ∈ wsX4_start := fun _ h => kt_wp_X4_start__X40 h
theorem iw_X4_start_X6 : ∀ w ∈ wsX60, w ∈ wsX4_start := fun _ h => kt_wp_X4_start__X60 h
theorem iw_X4_start_X1 : ∀ w ∈ wsX10, w ∈ wsX4_start := fun _ h => kt_wp_X4_start__X10 h
theorem iw_X4_start_X8 : ∀ w ∈ wsX80, w ∈ wsX4_start := fun _ h => kt_wp_X4_start__X80 h
theorem iw_X4_start_X9 : ∀ w ∈ wsX90, w ∈ wsX4_start := fun _ h => kt_wp_X4_start__X90 h