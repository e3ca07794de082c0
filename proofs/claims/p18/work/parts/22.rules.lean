theorem iw_X8_fieldOf_X8 : ∀ w ∈ wsX80, w ∈ wsX8_fieldOf := fun _ h => kt_wp_X8_fieldOf__X80 h
set_option maxHeartbeats 4000000 in
set_option maxRecDepth 100000 in
theorem c_X8_fieldOf (l : Launch) (D : va_G) (cI cZ cB : ClassId) (sz : Nat) (nw : Nat) (sf : Nat) (sh : Nat) (tu : Int32) (ff : Nat → Int32) (p1 : Int32) (hff : kt_r ff 40 (-1) 80) : kt_Mi l yX8_fieldOf wsX8_fieldOf { frames := 0, cells := 0, slots := 0, locals := 0 } D (kt_ty cI cZ cB) [.ref nw, .int p1] sz [(nw, .inr (8, [.ref sf, .ref sh, .int tu])), (sf, .inl (cI, 40, .inl ff))] (fun (r : Int32) (u : Unit) => -1 ≤ r.toInt ∧ r.toInt ≤ 80) (fun (u : Unit) => [(nw, .inr (8, [.ref sf, .ref sh, .int tu])), (sf, .inl (cI, 40, .inl ff))]) 0 0 := by
  refine kt_Mi.of (cc := cX8_fieldOf) (maxL := 2) (ret := some .int) (by decide) rfl (Nat.le_of_ble_eq_true rfl) ?_
  intro p e s m below meth c A ls H hAt hP hD hS hl
  obtain ⟨hx, hb, hr, hml, hown, hts, hN, hK, hlk, hnm, hA⟩ := hAt
  have hl : lv_has ls 2 [(0, .ref nw), (1, .int p1)] := hl
  have hown : s.vm.findClass RX8 = some m.cls := hown
  refine lv_iload_n hx hb dX8_fieldOf_0 rfl (lv_at hl 1 rfl) ?_
  refine lv_if_lt (tgt := 19) hx hb dX8_fieldOf_1 (by decide) (fun c_1 => ?_) (fun c_1 => ?_)
  · have d_1 := c_1
    simp only [kt_lt, kt_le, kt_eq, kt_c0, kt_c1, kt_c2, kt_c3, kt_c4, kt_c8, kt_c9, kt_cm1, kt_c81, kt_c40, kt_c7, kt_c5, kt_c6, kt_c512, kt_c10, kt_c10000] at d_1
    refine lv_iconst (v := (-1)) hx hb dX8_fieldOf_19 (by decide) ?_
    exact kt_ri () hx hb hr hlk hS dX8_fieldOf_20 hP hD (by show -1 ≤ (-1 : Int32).toInt ∧ (-1 : Int32).toInt ≤ 80; first | omega | decide)
  · have d_1 := c_1
    simp only [kt_lt, kt_le, kt_eq, kt_c0, kt_c1, kt_c2, kt_c3, kt_c4, kt_c8, kt_c9, kt_cm1, kt_c81, kt_c40, kt_c7, kt_c5, kt_c6, kt_c512, kt_c10, kt_c10000] at d_1
    refine lv_iload_n hx hb dX8_fieldOf_4 rfl (lv_at hl 1 rfl) ?_
    refine lv_bipush (v := 40) hx hb dX8_fieldOf_5 (by decide) ?_
    refine lv_icmp_ge (tgt := 19) hx hb dX8_fieldOf_7 (by decide) (fun c_7 => ?_) (fun c_7 => ?_)
    · have d_7 := c_7
      simp only [kt_lt, kt_le, kt_eq, kt_c0, kt_c1, kt_c2, kt_c3, kt_c4, kt_c8, kt_c9, kt_cm1, kt_c81, kt_c40, kt_c7, kt_c5, kt_c6, kt_c512, kt_c10, kt_c10000] at d_7
      refine lv_iconst (v := (-1)) hx hb dX8_fieldOf_19 (by decide) ?_
      exact kt_ri () hx hb hr hlk hS dX8_fieldOf_20 hP hD (by show -1 ≤ (-1 : Int32).toInt ∧ (-1 : Int32).toInt ≤ 80; first | omega | decide)
    · have d_7 := c_7
      simp only [kt_lt, kt_le, kt_eq, kt_c0, kt_c1, kt_c2, kt_c3, kt_c4, kt_c8, kt_c9, kt_cm1, kt_c81, kt_c40, kt_c7, kt_c5, kt_c6, kt_c512, kt_c10, kt_c10000] at d_7
      refine lv_aload_n hx hb dX8_fieldOf_10 rfl (lv_at hl 0 rfl) ?_
      refine va_get (D := D) (ci := 8) (C := RX8) (T := TX8) (N := 3) hx hb hts iw_X8_fieldOf_X8 hown hK hP 0 rfl rfl 0 (by decide) (hts (.fieldLink RX8 9 "KingTable$Stand" "fields" "[I") (List.mem_cons_of_mem _ (List.mem_append_left _ (List.Mem.head _)))) (fun _ h9 => h9) rfl dX8_fieldOf_11 ?_
      refine lv_iload_n hx hb dX8_fieldOf_14 rfl (lv_at hl 1 rfl) ?_
      have hi_1 : vp_in p1 40 := by exact kt_in (by omega) (by omega)
      refine va_iald hx hb hK hP 1 0 rfl rfl hi_1 dX8_fieldOf_15 ?_
      refine lv_topi (fun a_15 ea_15 => ?_)
      have ra_15 := hff.get hi_1
      rw [← ea_15] at ra_15
      refine lv_goto (tgt := 20) hx hb dX8_fieldOf_16 (by decide) ?_
      exact kt_ri () hx hb hr hlk hS dX8_fieldOf_20 hP hD (by show -1 ≤ a_15.toInt ∧ a_15.toInt ≤ 80; first | omega | decide)

theorem iw_X8_holderOf_X8 : ∀ w ∈ wsX80, w ∈ wsX8_holderOf := fun _ h => kt_wp_X8_holderOf__X80 h
set_option maxHeartbeats 4000000 in
set_option maxRecDepth 100000 in
theorem c_X8_holderOf (l : Launch) (D : va_G) (cI cZ cB : ClassId) (sz : Nat) (nw : Nat) (sf : Nat) (sh : Nat) (tu : Int32) (fh : Nat → Int32) (p1 : Int32) (hfh : kt_r fh 81 (-1) 39) : kt_Mi l yX8_holderOf wsX8_holderOf { frames := 0, cells := 0, slots := 0, locals := 0 } D (kt_ty cI cZ cB) [.ref nw, .int p1] sz [(nw, .inr (8, [.ref sf, .ref sh, .int tu])), (sh, .inl (cI, 81, .inl fh))] (fun (r : Int32) (u : Unit) => -1 ≤ r.toInt ∧ r.toInt ≤ 39) (fun (u : Unit) => [(nw, .inr (8, [.ref sf, .ref sh, .int tu])), (sh, .inl (cI, 81, .inl fh))]) 0 0 := by
  refine kt_Mi.of (cc := cX8_holderOf) (maxL := 2) (ret := some .int) (by decide) rfl (Nat.le_of_ble_eq_true rfl) ?_
  intro p e s m below meth c A ls H hAt hP hD hS hl
  obtain ⟨hx, hb, hr, hml, hown, hts, hN, hK, hlk, hnm, hA⟩ := hAt
  have hl : lv_has ls 2 [(0, .ref nw), (1, .int p1)] := hl
  have hown : s.vm.findClass RX8 = some m.cls := hown
  refine lv_iload_n hx hb dX8_holderOf_0 rfl (lv_at hl 1 rfl) ?_
  refine lv_if_lt (tgt := 19) hx hb dX8_holderOf_1 (by decide) (fun c_1 => ?_) (fun c_1 => ?_)
  · have d_1 := c_1
    simp only [kt_lt, kt_le, kt_eq, kt_c0, kt_c1, kt_c2, kt_c3, kt_c4, kt_c8, kt_c9, kt_cm1, kt_c81, kt_c40, kt_c7, kt_c5, kt_c6, kt_c512, kt_c10, kt_c10000] at d_1
    refine lv_iconst (v := (-1)) hx hb dX8_holderOf_19 (by decide) ?_
    exact kt_ri () hx hb hr hlk hS dX8_holderOf_20 hP hD (by show -1 ≤ (-1 : Int32).toInt ∧ (-1 : Int32).toInt ≤ 39; first | omega | decide)
  · have d_1 := c_1
    simp only [kt_lt, kt_le, kt_eq, kt_c0, kt_c1, kt_c2, kt_c3, kt_c4, kt_c8, kt_c9, kt_cm1, kt_c81, kt_c40, kt_c7, kt_c5, kt_c6, kt_c512, kt_c10, kt_c10000] at d_1
    refine lv_iload_n hx hb dX8_holderOf_4 rfl (lv_at hl 1 rfl) ?_
    refine lv_bipush (v := 81) hx hb dX8_holderOf_5 (by decide) ?_
    refine lv_icmp_ge (tgt := 19) hx hb dX8_holderOf_7 (by decide) (fun c_7 => ?_) (fun c_7 => ?_)
    · have d_7 := c_7
      simp only [kt_lt, kt_le, kt_eq, kt_c0, kt_c1, kt_c2, kt_c3, kt_c4, kt_c8, kt_c9, kt_cm1, kt_c81, kt_c40, kt_c7, kt_c5, kt_c6, kt_c512, kt_c10, kt_c10000] at d_7
      refine lv_iconst (v := (-1)) hx hb dX8_holderOf_19 (by decide) ?_
      exact kt_ri () hx hb hr hlk hS dX8_holderOf_20 hP hD (by show -1 ≤ (-1 : Int32).toInt ∧ (-1 : Int32).toInt ≤ 39; first | omega | decide)
    · have d_7 := c_7
      simp only [kt_lt, kt_le, kt_eq, kt_c0, kt_c1, kt_c2, kt_c3, kt_c4, kt_c8, kt_c9, kt_cm1, kt_c81, kt_c40, kt_c7, kt_c5, kt_c6, kt_c512, kt_c10, kt_c10000] at d_7
      refine lv_aload_n hx hb dX8_holderOf_10 rfl (lv_at hl 0 rfl) ?_
      refine va_get (D := D) (ci := 8) (C := RX8) (T := TX8) (N := 3) hx hb hts iw_X8_holderOf_X8 hown hK hP 0 rfl rfl 1 (by decide) (hts (.fieldLink RX8 15 "KingTable$Stand" "holders" "[I") (List.mem_cons_of_mem _ (List.mem_append_left _ (List.Mem.head _)))) (fun _ h9 => h9) rfl dX8_holderOf_11 ?_
      refine lv_iload_n hx hb dX8_holderOf_14 rfl (lv_at hl 1 rfl) ?_
      have hi_1 : vp_in p1 81 := by exact kt_in (by omega) (by omega)
      refine va_iald hx hb hK hP 1 0 rfl rfl hi_1 dX8_holderOf_15 ?_
      refine lv_topi (fun a_15 ea_15 => ?_)
      have ra_15 := hfh.get hi_1
      rw [← ea_15] at ra_15
      refine lv_goto (tgt := 20) hx hb dX8_holderOf_16 (by decide) ?_
      exact kt_ri () hx hb hr hlk hS dX8_holderOf_20 hP hD (by show -1 ≤ a_15.toInt ∧ a_15.toInt ≤ 39; first | omega | decide)

theorem iw_X8_place_X8 : ∀ w ∈ wsX80, w ∈ wsX8_place := fun _ h => kt_wp_X8_place__X80 h
theorem iw_X6_isPiece_X6 : ∀ w ∈ wsX60, w ∈ wsX6_isPiece := fun _ h => kt_wp_X6_isPiece__X60 h
set_option maxHeartbeats 4000000 in
set_option maxRecDepth 100000 in
theorem c_X6_isPiece (l : Launch) (D : va_G) (cI cZ cB : ClassId) (sz : Nat) (ru : Nat) (la : Nat) (gr : Nat) (rk : Nat) (rs : Nat) (rt : Nat) (rv : Nat) (tt : Int32) (kg : Int32) (vc : Int32) (p1 : Int32) : kt_Mi l yX6_isPiece wsX6_isPiece { frames := 0, cells := 0, slots := 0, locals := 0 } D (kt_ty cI cZ cB) [.ref ru, .int p1] sz [(ru, .inr (6, [.ref la, .ref gr, .ref rk, .ref rs, .ref rt, .int tt, .int kg, .ref rv, .int vc]))] (fun (r : Int32) (u : Unit) => kt_B r (0 ≤ p1.toInt ∧ p1.toInt < tt.toInt)) (fun (u : Unit) => [(ru, .inr (6, [.ref la, .ref gr, .ref rk, .ref rs, .ref rt, .int tt, .int kg, .ref rv, .int vc]))]) 0 0 := by
  refine kt_Mi.of (cc := cX6_isPiece) (maxL := 2) (ret := some .boolean) (by decide) rfl (Nat.le_of_ble_eq_true rfl) ?_
  intro p e s m below meth c A ls H hAt hP hD hS hl
  obtain ⟨hx, hb, hr, hml, hown, hts, hN, hK, hlk, hnm, hA⟩ := hAt
  have hl : lv_has ls 2 [(0, .ref ru), (1, .int p1)] := hl
  have hown : s.vm.findClass RX6 = some m.cls := hown
  refine lv_iload_n hx hb dX6_isPiece_0 rfl (lv_at hl 1 rfl) ?_
  refine lv_if_lt (tgt := 16) hx hb dX6_isPiece_1 (by decide) (fun c_1 => ?_) (fun c_1 => ?_)
  · have d_1 := c_1
    simp only [kt_lt, kt_le, kt_eq, kt_c0, kt_c1, kt_c2, kt_c3, kt_c4, kt_c8, kt_c9, kt_cm1, kt_c81, kt_c40, kt_c7, kt_c5, kt_c6, kt_c512, kt_c10, kt_c10000] at d_1
    refine lv_iconst (v := 0) hx hb dX6_isPiece_16 (by decide) ?_
    exact kt_rz () hx hb hr hlk hS dX6_isPiece_17 hP hD (by show kt_B (0 : Int32) (0 ≤ p1.toInt ∧ p1.toInt < tt.toInt); first | exact Or.inl ⟨rfl, by omega⟩ | exact Or.inr ⟨rfl, by omega⟩) rfl
  · have d_1 := c_1
    simp only [kt_lt, kt_le, kt_eq, kt_c0, kt_c1, kt_c2, kt_c3, kt_c4, kt_c8, kt_c9, kt_cm1, kt_c81, kt_c40, kt_c7, kt_c5, kt_c6, kt_c512, kt_c10, kt_c10000] at d_1
    refine lv_iload_n hx hb dX6_isPiece_4 rfl (lv_at hl 1 rfl) ?_
    refine lv_aload_n hx hb dX6_isPiece_5 rfl (lv_at hl 0 rfl) ?_
    refine va_get (D := D) (ci := 6) (C := RX6) (T := TX6) (N := 9) hx hb hts iw_X6_isPiece_X6 hown hK hP 0 rfl rfl 5 (by decide) (hts (.fieldLink RX6 40 "KingTable$Rules" "total" "I") (List.mem_cons_of_mem _ (List.mem_append_left _ (List.Mem.head _)))) (fun _ h9 => h9) rfl dX6_isPiece_6 ?_
    refine lv_icmp_ge (tgt := 16) hx hb dX6_isPiece_9 (by decide) (fun c_9 => ?_) (fun c_9 => ?_)
    · have d_9 := c_9
      simp only [kt_lt, kt_le, kt_eq, kt_c0, kt_c1, kt_c2, kt_c3, kt_c4, kt_c8, kt_c9, kt_cm1, kt_c81, kt_c40, kt_c7, kt_c5, kt_c6, kt_c512, kt_c10, kt_c10000] at d_9
      refine lv_iconst (v := 0) hx hb dX6_isPiece_16 (by decide) ?_
      exact kt_rz () hx hb hr hlk hS dX6_isPiece_17 hP hD (by show kt_B (0 : Int32) (0 ≤ p1.toInt ∧ p1.toInt < tt.toInt); first | exact Or.inl ⟨rfl, by omega⟩ | exact Or.inr ⟨rfl, by omega⟩) rfl
    · have d_9 := c_9
      simp only [kt_lt, kt_le, kt_eq, kt_c0, kt_c1, kt_c2, kt_c3, kt_c4, kt_c8, kt_c9, kt_cm1, kt_c81, kt_c40, kt_c7, kt_c5, kt_c6, kt_c512, kt_c10, kt_c10000] at d_9
      refine lv_iconst (v := 1) hx hb dX6_isPiece_12 (by decide) ?_
      refine lv_goto (tgt := 17) hx hb dX6_isPiece_13 (by decide) ?_
      exact kt_rz () hx hb hr hlk hS dX6_isPiece_17 hP hD (by show kt_B (1 : Int32) (0 ≤ p1.toInt ∧ p1.toInt < tt.toInt); first | exact Or.inl ⟨rfl, by omega⟩ | exact Or.inr ⟨rfl, by omega⟩) rfl

theorem iw_X6_bears_X6 : ∀ w ∈ wsX60, w ∈ wsX6_bears := fun _ h => kt_wp_X6_bears__X60 h
theorem iw_X6_bears_X0 : ∀ w ∈ wsX00, w ∈ wsX6_bears := fun _ h => kt_wp_X6_bears__X00 h
set_option maxHeartbeats 4000000 in
set_option maxRecDepth 100000 in
theorem c_X6_bears (l : Launch) (D : va_G) (cI cZ cB : ClassId) (sz : Nat) (ru : Nat) (la : Nat) (gr : Nat) (rk : Nat) (rs : Nat) (rt : Nat) (rv : Nat) (tt : Int32) (kg : Int32) (vc : Int32) (gt : Nat) (gg : Nat) (gn : Nat) (gs : Int32) (gm : Int32) (tg : Nat → Int32) (p1 : Int32) (p2 : Int32) (hgs : 0 ≤ gs.toInt ∧ gs.toInt ≤ 81) (hgt : kt_r tg 81 0 2) : kt_Mi l yX6_bears wsX6_bears { frames := 0, cells := 0, slots := 0, locals := 0 } D (kt_ty cI cZ cB) [.ref ru, .int p1, .int p2] sz [(ru, .inr (6, [.ref la, .ref gr, .ref rk, .ref rs, .ref rt, .int tt, .int kg, .ref rv, .int vc])), (gr, .inr (0, [.ref gt, .ref gg, .ref gn, .int gs, .int gm])), (gt, .inl (cI, 81, .inl tg))] (fun (r : Int32) (u : Unit) => 0 ≤ r.toInt ∧ r.toInt ≤ 1) (fun (u : Unit) => [(ru, .inr (6, [.ref la, .ref gr, .ref rk, .ref rs, .ref rt, .int tt, .int kg, .ref rv, .int vc])), (gr, .inr (0, [.ref gt, .ref gg, .ref gn, .int gs, .int gm])), (gt, .inl (cI, 81, .inl tg))]) 0 0 := by
  refine kt_Mi.of (cc := cX6_bears) (maxL := 3) (ret := some .boolean) (by decide) rfl (Nat.le_of_ble_eq_true rfl) ?_
  intro p e s m below meth c A ls H hAt hP hD hS hl
  obtain ⟨hx, hb, hr, hml, hown, hts, hN, hK, hlk, hnm, hA⟩ := hAt
  have hl : lv_has ls 3 [(0, .ref ru), (1, .int p1), (2, .int p2)] := hl
  have hown : s.vm.findClass RX6 = some m.cls := hown
  refine lv_iload_n hx hb dX6_bears_0 rfl (lv_at hl 2 rfl) ?_
  refine lv_aload_n hx hb dX6_bears_1 rfl (lv_at hl 0 rfl) ?_
  refine va_get (D := D) (ci := 6) (C := RX6) (T := TX6) (N := 9) hx hb hts iw_X6_bears_X6 hown hK hP 0 rfl rfl 6 (by decide) (hts (.fieldLink RX6 29 "KingTable$Rules" "king" "I") (List.mem_cons_of_mem _ (List.mem_append_left _ (List.mem_append_left _ (List.Mem.head _))))) (fun _ h9 => h9) rfl dX6_bears_2 ?_
  refine lv_icmp_eq (tgt := 35) hx hb dX6_bears_5 (by decide) (fun c_5 => ?_) (fun c_5 => ?_)
  · have d_5 := c_5
    simp only [kt_lt, kt_le, kt_eq, kt_c0, kt_c1, kt_c2, kt_c3, kt_c4, kt_c8, kt_c9, kt_cm1, kt_c81, kt_c40, kt_c7, kt_c5, kt_c6, kt_c512, kt_c10, kt_c10000] at d_5
    refine lv_iconst (v := 1) hx hb dX6_bears_35 (by decide) ?_
    refine lv_goto (tgt := 40) hx hb dX6_bears_36 (by decide) ?_
    exact kt_rz () hx hb hr hlk hS dX6_bears_40 hP hD (by show 0 ≤ (1 : Int32).toInt ∧ (1 : Int32).toInt ≤ 1; decide) rfl
  · have d_5 := c_5
    simp only [kt_lt, kt_le, kt_eq, kt_c0, kt_c1, kt_c2, kt_c3, kt_c4, kt_c8, kt_c9, kt_cm1, kt_c81, kt_c40, kt_c7, kt_c5, kt_c6, kt_c512, kt_c10, kt_c10000] at d_5
    refine lv_iload_n hx hb dX6_bears_8 rfl (lv_at hl 1 rfl) ?_
    refine lv_if_lt (tgt := 39) hx hb dX6_bears_9 (by decide) (fun c_9 => ?_) (fun c_9 => ?_)
    · have d_9 := c_9
      simp only [kt_lt, kt_le, kt_eq, kt_c0, kt_c1, kt_c2, kt_c3, kt_c4, kt_c8, kt_c9, kt_cm1, kt_c81, kt_c40, kt_c7, kt_c5, kt_c6, kt_c512, kt_c10, kt_c10000] at d_9
      refine lv_iconst (v := 0) hx hb dX6_bears_39 (by decide) ?_
      exact kt_rz () hx hb hr hlk hS dX6_bears_40 hP hD (by show 0 ≤ (0 : Int32).toInt ∧ (0 : Int32).toInt ≤ 1; decide) rfl
    · have d_9 := c_9
      simp only [kt_lt, kt_le, kt_eq, kt_c0, kt_c1, kt_c2, kt_c3, kt_c4, kt_c8, kt_c9, kt_cm1, kt_c81, kt_c40, kt_c7, kt_c5, kt_c6, kt_c512, kt_c10, kt_c10000] at d_9
      refine lv_iload_n hx hb dX6_bears_12 rfl (lv_at hl 1 rfl) ?_
      refine lv_aload_n hx hb dX6_bears_13 rfl (lv_at hl 0 rfl) ?_
      refine va_get (D := D) (ci := 6) (C := RX6) (T := TX6) (N := 9) hx hb hts iw_X6_bears_X6 hown hK hP 0 rfl rfl 1 (by decide) (hts (.fieldLink RX6 12 "KingTable$Rules" "ground" "LKingTable$Ground;") (List.mem_cons_of_mem _ (List.mem_append_left _ (List.mem_append_left _ (List.mem_cons_of_mem _ (List.Mem.head _)))))) (fun _ h9 => h9) rfl dX6_bears_14 ?_
      refine va_getN (D := D) (ci := 0) (C := RX0) (T := TX0) (N := 5) hx hb hts iw_X6_bears_X0 hown hK hP 1 rfl rfl 3 (by decide) (va_Nw.use (w := .fieldLinkNest RX6 49 "KingTable$Ground" "size" "I" "KingTable") rfl (hN _ (by decide +kernel))) (fun _ h9 => h9) rfl dX6_bears_17 ?_
      refine lv_icmp_ge (tgt := 39) hx hb dX6_bears_20 (by decide) (fun c_20 => ?_) (fun c_20 => ?_)
      · have d_20 := c_20
        simp only [kt_lt, kt_le, kt_eq, kt_c0, kt_c1, kt_c2, kt_c3, kt_c4, kt_c8, kt_c9, kt_cm1, kt_c81, kt_c40, kt_c7, kt_c5, kt_c6, kt_c512, kt_c10, kt_c10000] at d_20
        refine lv_iconst (v := 0) hx hb dX6_bears_39 (by decide) ?_
        exact kt_rz () hx hb hr hlk hS dX6_bears_40 hP hD (by show 0 ≤ (0 : Int32).toInt ∧ (0 : Int32).toInt ≤ 1; decide) rfl
      · have d_20 := c_20
        simp only [kt_lt, kt_le, kt_eq, kt_c0, kt_c1, kt_c2, kt_c3, kt_c4, kt_c8, kt_c9, kt_cm1, kt_c81, kt_c40, kt_c7, kt_c5, kt_c6, kt_c512, kt_c10, kt_c10000] at d_20
        refine lv_aload_n hx hb dX6_bears_23 rfl (lv_at hl 0 rfl) ?_
        refine va_get (D := D) (ci := 6) (C := RX6) (T := TX6) (N := 9) hx hb hts iw_X6_bears_X6 hown hK hP 0 rfl rfl 1 (by decide) (hts (.fieldLink RX6 12 "KingTable$Rules" "ground" "LKingTable$Ground;") (List.mem_cons_of_mem _ (List.mem_append_left _ (List.mem_append_left _ (List.mem_cons_of_mem _ (List.Mem.head _)))))) (fun _ h9 => h9) rfl dX6_bears_24 ?_
        refine va_getN (D := D) (ci := 0) (C := RX0) (T := TX0) (N := 5) hx hb hts iw_X6_bears_X0 hown hK hP 1 rfl rfl 0 (by decide) (va_Nw.use (w := .fieldLinkNest RX6 52 "KingTable$Ground" "types" "[I" "KingTable") rfl (hN _ (by decide +kernel))) (fun _ h9 => h9) rfl dX6_bears_27 ?_
        refine lv_iload_n hx hb dX6_bears_30 rfl (lv_at hl 1 rfl) ?_
        have hi_1 : vp_in p1 81 := by exact kt_in (by omega) (by omega)
        refine va_iald hx hb hK hP 2 0 rfl rfl hi_1 dX6_bears_31 ?_
        refine lv_topi (fun a_31 ea_31 => ?_)
        have ra_31 := hgt.get hi_1
        rw [← ea_31] at ra_31
        refine lv_if_ne (tgt := 39) hx hb dX6_bears_32 (by decide) (fun c_32 => ?_) (fun c_32 => ?_)
        · have d_32 := c_32
          simp only [kt_lt, kt_le, kt_eq, kt_c0, kt_c1, kt_c2, kt_c3, kt_c4, kt_c8, kt_c9, kt_cm1, kt_c81, kt_c40, kt_c7, kt_c5, kt_c6, kt_c512, kt_c10, kt_c10000] at d_32
          refine lv_iconst (v := 0) hx hb dX6_bears_39 (by decide) ?_
          exact kt_rz () hx hb hr hlk hS dX6_bears_40 hP hD (by show 0 ≤ (0 : Int32).toInt ∧ (0 : Int32).toInt ≤ 1; decide) rfl
        · have d_32 := c_32
          simp only [kt_lt, kt_le, kt_eq, kt_c0, kt_c1, kt_c2, kt_c3, kt_c4, kt_c8, kt_c9, kt_cm1, kt_c81, kt_c40, kt_c7, kt_c5, kt_c6, kt_c512, kt_c10, kt_c10000] at d_32
          refine lv_iconst (v := 1) hx hb dX6_bears_35 (by decide) ?_
          refine lv_goto (tgt := 40) hx hb dX6_bears_36 (by decide) ?_
          exact kt_rz () hx hb hr hlk hS dX6_bears_40 hP hD (by show 0 ≤ (1 : Int32).toInt ∧ (1 : Int32).toInt ≤ 1; decide) rfl

theorem iw_X6_isGoal_X6 : ∀ w ∈ wsX60, w ∈ wsX6_isGoal := fun _ h => kt_wp_X6_isGoal__X60 h
theorem iw_X6_isGoal_X0 : ∀ w ∈ wsX00, w ∈ wsX6_isGoal := fun _ h => kt_wp_X6_isGoal__X00 h
set_option maxHeartbeats 4000000 in
set_option maxRecDepth 100000 in
theorem c_X6_isGoal (l : Launch) (D : va_G) (cI cZ cB : ClassId) (sz : Nat) (ru : Nat) (la : Nat) (gr : Nat) (rk : Nat) (rs : Nat) (rt : Nat) (rv : Nat) (tt : Int32) (kg : Int32) (vc : Int32) (gt : Nat) (gg : Nat) (gn : Nat) (gs : Int32) (gm : Int32) (gl : Nat → Int32) (p1 : Int32) (hgs : 0 ≤ gs.toInt ∧ gs.toInt ≤ 81) (hgg : kt_r gl 81 0 1) : kt_Mi l yX6_isGoal wsX6_isGoal { frames := 0, cells := 0, slots := 0, locals := 0 } D (kt_ty cI cZ cB) [.ref ru, .int p1] sz [(ru, .inr (6, [.ref la, .ref gr, .ref rk, .ref rs, .ref rt, .int tt, .int kg, .ref rv, .int vc])), (gr, .inr (0, [.ref gt, .ref gg, .ref gn, .int gs, .int gm])), (gg, .inl (cZ, 81, .inl gl))] (fun (r : Int32) (u : Unit) => 0 ≤ r.toInt ∧ r.toInt ≤ 1) (fun (u : Unit) => [(ru, .inr (6, [.ref la, .ref gr, .ref rk, .ref rs, .ref rt, .int tt, .int kg, .ref rv, .int vc])), (gr, .inr (0, [.ref gt, .ref gg, .ref gn, .int gs, .int gm])), (gg, .inl (cZ, 81, .inl gl))]) 0 0 := by
  refine kt_Mi.of (cc := cX6_isGoal) (maxL := 2) (ret := some .boolean) (by decide) rfl (Nat.le_of_ble_eq_true rfl) ?_
  intro p e s m below meth c A ls H hAt hP hD hS hl
  obtain ⟨hx, hb, hr, hml, hown, hts, hN, hK, hlk, hnm, hA⟩ := hAt
  have hl : lv_has ls 2 [(0, .ref ru), (1, .int p1)] := hl
  have hown : s.vm.findClass RX6 = some m.cls := hown
  refine lv_iload_n hx hb dX6_isGoal_0 rfl (lv_at hl 1 rfl) ?_
  refine lv_if_lt (tgt := 31) hx hb dX6_isGoal_1 (by decide) (fun c_1 => ?_) (fun c_1 => ?_)
  · have d_1 := c_1
    simp only [kt_lt, kt_le, kt_eq, kt_c0, kt_c1, kt_c2, kt_c3, kt_c4, kt_c8, kt_c9, kt_cm1, kt_c81, kt_c40, kt_c7, kt_c5, kt_c6, kt_c512, kt_c10, kt_c10000] at d_1
    refine lv_iconst (v := 0) hx hb dX6_isGoal_31 (by decide) ?_
    exact kt_rz () hx hb hr hlk hS dX6_isGoal_32 hP hD (by show 0 ≤ (0 : Int32).toInt ∧ (0 : Int32).toInt ≤ 1; decide) rfl
  · have d_1 := c_1
    simp only [kt_lt, kt_le, kt_eq, kt_c0, kt_c1, kt_c2, kt_c3, kt_c4, kt_c8, kt_c9, kt_cm1, kt_c81, kt_c40, kt_c7, kt_c5, kt_c6, kt_c512, kt_c10, kt_c10000] at d_1
    refine lv_iload_n hx hb dX6_isGoal_4 rfl (lv_at hl 1 rfl) ?_
    refine lv_aload_n hx hb dX6_isGoal_5 rfl (lv_at hl 0 rfl) ?_
    refine va_get (D := D) (ci := 6) (C := RX6) (T := TX6) (N := 9) hx hb hts iw_X6_isGoal_X6 hown hK hP 0 rfl rfl 1 (by decide) (hts (.fieldLink RX6 12 "KingTable$Rules" "ground" "LKingTable$Ground;") (List.mem_cons_of_mem _ (List.mem_append_left _ (List.mem_append_left _ (List.Mem.head _))))) (fun _ h9 => h9) rfl dX6_isGoal_6 ?_
    refine va_getN (D := D) (ci := 0) (C := RX0) (T := TX0) (N := 5) hx hb hts iw_X6_isGoal_X0 hown hK hP 1 rfl rfl 3 (by decide) (va_Nw.use (w := .fieldLinkNest RX6 49 "KingTable$Ground" "size" "I" "KingTable") rfl (hN _ (by decide +kernel))) (fun _ h9 => h9) rfl dX6_isGoal_9 ?_
    refine lv_icmp_ge (tgt := 31) hx hb dX6_isGoal_12 (by decide) (fun c_12 => ?_) (fun c_12 => ?_)
    · have d_12 := c_12
      simp only [kt_lt, kt_le, kt_eq, kt_c0, kt_c1, kt_c2, kt_c3, kt_c4, kt_c8, kt_c9, kt_cm1, kt_c81, kt_c40, kt_c7, kt_c5, kt_c6, kt_c512, kt_c10, kt_c10000] at d_12
      refine lv_iconst (v := 0) hx hb dX6_isGoal_31 (by decide) ?_
      exact kt_rz () hx hb hr hlk hS dX6_isGoal_32 hP hD (by show 0 ≤ (0 : Int32).toInt ∧ (0 : Int32).toInt ≤ 1; decide) rfl
    · have d_12 := c_12
      simp only [kt_lt, kt_le, kt_eq, kt_c0, kt_c1, kt_c2, kt_c3, kt_c4, kt_c8, kt_c9, kt_cm1, kt_c81, kt_c40, kt_c7, kt_c5, kt_c6, kt_c512, kt_c10, kt_c10000] at d_12
      refine lv_aload_n hx hb dX6_isGoal_15 rfl (lv_at hl 0 rfl) ?_
      refine va_get (D := D) (ci := 6) (C := RX6) (T := TX6) (N := 9) hx hb hts iw_X6_isGoal_X6 hown hK hP 0 rfl rfl 1 (by decide) (hts (.fieldLink RX6 12 "KingTable$Rules" "ground" "LKingTable$Ground;") (List.mem_cons_of_mem _ (List.mem_append_left _ (List.mem_append_left _ (List.Mem.head _))))) (fun _ h9 => h9) rfl dX6_isGoal_16 ?_
      refine va_getN (D := D) (ci := 0) (C := RX0) (T := TX0) (N := 5) hx hb hts iw_X6_isGoal_X0 hown hK hP 1 rfl rfl 1 (by decide) (va_Nw.use (w := .fieldLinkNest RX6 55 "KingTable$Ground" "goals" "[Z" "KingTable") rfl (hN _ (by decide +kernel))) (fun _ h9 => h9) rfl dX6_isGoal_19 ?_
      refine lv_iload_n hx hb dX6_isGoal_22 rfl (lv_at hl 1 rfl) ?_
      have hi_1 : vp_in p1 81 := by exact kt_in (by omega) (by omega)
      refine va_zald hx hb hK hP 2 1 rfl rfl hi_1 dX6_isGoal_23 ?_
      refine lv_topi (fun a_23 ea_23 => ?_)
      have ra_23 := hgg.get hi_1
      rw [← ea_23] at ra_23
      refine lv_if_eq (tgt := 31) hx hb dX6_isGoal_24 (by decide) (fun c_24 => ?_) (fun c_24 => ?_)
      · have d_24 := c_24
        simp only [kt_lt, kt_le, kt_eq, kt_c0, kt_c1, kt_c2, kt_c3, kt_c4, kt_c8, kt_c9, kt_cm1, kt_c81, kt_c40, kt_c7, kt_c5, kt_c6, kt_c512, kt_c10, kt_c10000] at d_24
        refine lv_iconst (v := 0) hx hb dX6_isGoal_31 (by decide) ?_
        exact kt_rz () hx hb hr hlk hS dX6_isGoal_32 hP hD (by show 0 ≤ (0 : Int32).toInt ∧ (0 : Int32).toInt ≤ 1; decide) rfl
      · have d_24 := c_24
        simp only [kt_lt, kt_le, kt_eq, kt_c0, kt_c1, kt_c2, kt_c3, kt_c4, kt_c8, kt_c9, kt_cm1, kt_c81, kt_c40, kt_c7, kt_c5, kt_c6, kt_c512, kt_c10, kt_c10000] at d_24
        refine lv_iconst (v := 1) hx hb dX6_isGoal_27 (by decide) ?_
        refine lv_goto (tgt := 32) hx hb dX6_isGoal_28 (by decide) ?_
        exact kt_rz () hx hb hr hlk hS dX6_isGoal_32 hP hD (by show 0 ≤ (1 : Int32).toInt ∧ (1 : Int32).toInt ≤ 1; decide) rfl

theorem iw_X6_isBeyondReach_X6 : ∀ w ∈ wsX60, w ∈ wsX6_isBeyondReach := fun _ h => kt_wp_X6_isBeyondReach__X60 h
theorem iw_X6_isBeyondReach_X1 : ∀ w ∈ wsX10, w ∈ wsX6_isBeyondReach := fun _ h => kt_wp_X6_isBeyondReach__X10 h
theorem iw_X6_room_X6 : ∀ w ∈ wsX60, w ∈ wsX6_room := fun _ h => kt_wp_X6_room__X60 h
theorem iw_X6_room_X1 : ∀ w ∈ wsX10, w ∈ wsX6_room := fun _ h => kt_wp_X6_room__X10 h
set_option maxHeartbeats 4000000 in
set_option maxRecDepth 100000 in
theorem c_X6_room (l : Launch) (D : va_G) (cI cZ cB : ClassId) (sz : Nat) (ru : Nat) (la : Nat) (gr : Nat) (rk : Nat) (rs : Nat) (rt : Nat) (rv : Nat) (tt : Int32) (kg : Int32) (vc : Int32) (lg : Int32) (lh : Int32) (lt : Int32) (lr : Int32) (lc : Int32) (gt : Nat) (gg : Nat) (gn : Nat) (gs : Int32) (gm : Int32) (tg : Nat → Int32) (nb : Nat → Int32) (nw : Nat) (sf : Nat) (sh : Nat) (tu : Int32) (ff : Nat → Int32) (fh : Nat → Int32) (p1 : Int32) (p2 : Int32) (hgs : 0 ≤ gs.toInt ∧ gs.toInt ≤ 81) (hgt : kt_r tg 81 0 2) (hnb : kt_r nb 324 (-1) 80) (hff : kt_r ff 40 (-1) 80) (hfh : kt_r fh 81 (-1) 39) (hlr : 0 ≤ lr.toInt ∧ lr.toInt ≤ 8) : kt_Mi l yX6_room wsX6_room { frames := 1, cells := 0, slots := 0, locals := 23 } D (kt_ty cI cZ cB) [.ref ru, .ref nw, .int p1, .int p2] sz [(ru, .inr (6, [.ref la, .ref gr, .ref rk, .ref rs, .ref rt, .int tt, .int kg, .ref rv, .int vc])), (la, .inr (1, [.int lg, .int lh, .int lt, .int lr, .int lc])), (gr, .inr (0, [.ref gt, .ref gg, .ref gn, .int gs, .int gm])), (gt, .inl (cI, 81, .inl tg)), (gn, .inl (cI, 324, .inl nb)), (nw, .inr (8, [.ref sf, .ref sh, .int tu])), (sf, .inl (cI, 40, .inl ff)), (sh, .inl (cI, 81, .inl fh))] (fun (r : Int32) (u : Unit) => 0 ≤ r.toInt ∧ r.toInt ≤ 9) (fun (u : Unit) => [(ru, .inr (6, [.ref la, .ref gr, .ref rk, .ref rs, .ref rt, .int tt, .int kg, .ref rv, .int vc])), (la, .inr (1, [.int lg, .int lh, .int lt, .int lr, .int lc])), (gr, .inr (0, [.ref gt, .ref gg, .ref gn, .int gs, .int gm])), (gt, .inl (cI, 81, .inl tg)), (gn, .inl (cI, 324, .inl nb)), (nw, .inr (8, [.ref sf, .ref sh, .int tu])), (sf, .inl (cI, 40, .inl ff)), (sh, .inl (cI, 81, .inl fh))]) 0 0 := by
  refine kt_Mi.of (cc := cX6_room) (maxL := 7) (ret := some .int) (by decide) rfl (Nat.le_of_ble_eq_true rfl) ?_
  intro p e s m below meth c A ls H hAt hP hD hS hl
  obtain ⟨hx, hb, hr, hml, hown, hts, hN, hK, hlk, hnm, hA⟩ := hAt
  have hl : lv_has ls 7 [(0, .ref ru), (1, .ref nw), (2, .int p1), (3, .int p2)] := hl
  have hown : s.vm.findClass RX6 = some m.cls := hown
  refine lv_iload_n hx hb dX6_room_0 rfl (lv_at hl 2 rfl) ?_
  refine lv_aload_n hx hb dX6_room_1 rfl (lv_at hl 0 rfl) ?_
  refine va_get (D := D) (ci := 6) (C := RX6) (T := TX6) (N := 9) hx hb hts iw_X6_room_X6 hown hK hP 0 rfl rfl 6 (by decide) (hts (.fieldLink RX6 29 "KingTable$Rules" "king" "I") (kt_wp_X6_room__X6_room_r1 kt_wm0)) (fun _ h9 => h9) rfl dX6_room_2 ?_
  refine kt_join (σ := Int32) 30 7 (fun u => [(ru, .inr (6, [.ref la, .ref gr, .ref rk, .ref rs, .ref rt, .int tt, .int kg, .ref rv, .int vc])), (la, .inr (1, [.int lg, .int lh, .int lt, .int lr, .int lc])), (gr, .inr (0, [.ref gt, .ref gg, .ref gn, .int gs, .int gm])), (gt, .inl (cI, 81, .inl tg)), (gn, .inl (cI, 324, .inl nb)), (nw, .inr (8, [.ref sf, .ref sh, .int tu])), (sf, .inl (cI, 40, .inl ff)), (sh, .inl (cI, 81, .inl fh))]) (fun u => [(0, .ref ru), (1, .ref nw), (2, .int p1), (3, .int p2)]) (fun u => [.int u]) (fun u => 0 ≤ u.toInt ∧ u.toInt ≤ 9) (D := D) (A := A) (H0 := s.heap) (fun u hI H locs hP hD hS ls hl => ?_) (fun j_30 => ?_)
  · obtain ⟨lim, rfl⟩ : ∃ z, z = u := ⟨_, rfl⟩
    have hP : va_P D vwCl [(ru, .inr (6, [.ref la, .ref gr, .ref rk, .ref rs, .ref rt, .int tt, .int kg, .ref rv, .int vc])), (la, .inr (1, [.int lg, .int lh, .int lt, .int lr, .int lc])), (gr, .inr (0, [.ref gt, .ref gg, .ref gn, .int gs, .int gm])), (gt, .inl (cI, 81, .inl tg)), (gn, .inl (cI, 324, .inl nb)), (nw, .inr (8, [.ref sf, .ref sh, .int tu])), (sf, .inl (cI, 40, .inl ff)), (sh, .inl (cI, 81, .inl fh))] H := hP
    have hD : va_D A [(ru, .inr (6, [.ref la, .ref gr, .ref rk, .ref rs, .ref rt, .int tt, .int kg, .ref rv, .int vc])), (la, .inr (1, [.int lg, .int lh, .int lt, .int lr, .int lc])), (gr, .inr (0, [.ref gt, .ref gg, .ref gn, .int gs, .int gm])), (gt, .inl (cI, 81, .inl tg)), (gn, .inl (cI, 324, .inl nb)), (nw, .inr (8, [.ref sf, .ref sh, .int tu])), (sf, .inl (cI, 40, .inl ff)), (sh, .inl (cI, 81, .inl fh))] := hD
    have hl : lv_has ls 7 [(0, .ref ru), (1, .ref nw), (2, .int p1), (3, .int p2)] := hl
    have hI : 0 ≤ lim.toInt ∧ lim.toInt ≤ 9 := hI
    have hlim := hI
    refine lv_istore (lv' := [(4, .int lim), (0, .ref ru), (1, .ref nw), (2, .int p1), (3, .int p2)]) hx hb dX6_room_30 hl (by decide) rfl (fun ls hl => ?_)
    refine lv_aload_n hx hb dX6_room_32 rfl (lv_at hl 1 rfl) ?_
    refine va_get (D := D) (ci := 6) (C := RX6) (T := TX6) (N := 9) hx hb hts iw_X6_room_X6 hown hK hP 0 rfl rfl 1 (by decide) (hts (.fieldLink RX6 12 "KingTable$Rules" "ground" "LKingTable$Ground;") (kt_wp_X6_room__X6_room_r1 kt_wm2)) (fun _ h9 => h9) rfl dX6_room_33 ?_
    refine lv_aload_n hx hb dX6_room_36 rfl (lv_at hl 2 rfl) ?_
    refine lv_iload_n hx hb dX6_room_37 rfl (lv_at hl 3 rfl) ?_
    refine kt_pi (wc := [(nw, .inr (8, [.ref sf, .ref sh, .int tu])), (sf, .inl (cI, 40, .inl ff))]) [5, 6] hP hD hS hA rfl (by decide) (fun hPc hDc => va_runV (As := [.int p1]) (rest := [.ref gr]) ⟨hx, hb, hml, hown, hts⟩ (c_X8_fieldOf l D cI cZ cB H.size nw sf sh tu ff p1 (by first | assumption | omega | rfl | decide)) (cwV 1 hts gX6_room_X8_fieldOf rfl rfl rfl (by decide +kernel) ⟨Nat.le_of_ble_eq_true rfl, Nat.le_of_ble_eq_true rfl⟩) (kt_preV hN hK hPc hDc 0 (ci := 8) (q := (RX8, TX8, 3)) rfl rfl) rfl rfl hl.1 rfl (lv_room (Nat.le_of_ble_eq_true rfl)) dX6_room_38 ⟨Nat.le_of_ble_eq_true rfl, Nat.le_of_ble_eq_true rfl⟩) (fun r_38 _ H locs hw_38 hP hS => ?_)
    refine lv_iload_n hx hb dX6_room_41 rfl (lv_at hl 4 rfl) ?_
    refine kt_pi (wc := [(gr, .inr (0, [.ref gt, .ref gg, .ref gn, .int gs, .int gm])), (gn, .inl (cI, 324, .inl nb))]) [2, 4] hP hD hS hA rfl (by decide) (fun hPc hDc => va_runV (As := [.int r_38, .int p2]) (rest := []) ⟨hx, hb, hml, hown, hts⟩ (c_X0_beside l D cI cZ cB H.size gr gt gg gn gs gm nb r_38 p2 (by first | assumption | omega | rfl | decide) (by first | assumption | omega | rfl | decide)) (cwV 2 hts gX6_room_X0_beside rfl rfl rfl (by decide +kernel) ⟨Nat.le_of_ble_eq_true rfl, Nat.le_of_ble_eq_true rfl⟩) (kt_preV hN hK hPc hDc 0 (ci := 0) (q := (RX0, TX0, 5)) rfl rfl) rfl rfl hl.1 rfl (lv_room (Nat.le_of_ble_eq_true rfl)) dX6_room_42 ⟨Nat.le_of_ble_eq_true rfl, Nat.le_of_ble_eq_true rfl⟩) (fun r_42 _ H locs hw_42 hP hS => ?_)
    refine lv_istore (lv' := [(5, .int r_42), (4, .int lim), (0, .ref ru), (1, .ref nw), (2, .int p1), (3, .int p2)]) hx hb dX6_room_45 hl (by decide) rfl (fun ls hl => ?_)
    refine lv_iconst (v := 0) hx hb dX6_room_47 (by decide) ?_
    refine lv_istore (lv' := [(6, .int 0), (5, .int r_42), (4, .int lim), (0, .ref ru), (1, .ref nw), (2, .int p1), (3, .int p2)]) hx hb dX6_room_48 hl (by decide) rfl (fun ls hl => ?_)
    refine kt_loop (σ := Nat × Int32) 50 7 (fun u => [(ru, .inr (6, [.ref la, .ref gr, .ref rk, .ref rs, .ref rt, .int tt, .int kg, .ref rv, .int vc])), (la, .inr (1, [.int lg, .int lh, .int lt, .int lr, .int lc])), (gr, .inr (0, [.ref gt, .ref gg, .ref gn, .int gs, .int gm])), (gt, .inl (cI, 81, .inl tg)), (gn, .inl (cI, 324, .inl nb)), (nw, .inr (8, [.ref sf, .ref sh, .int tu])), (sf, .inl (cI, 40, .inl ff)), (sh, .inl (cI, 81, .inl fh))]) (fun u => [(6, .int (nI u.1)), (5, .int u.2), (4, .int lim), (0, .ref ru), (1, .ref nw), (2, .int p1), (3, .int p2)]) (fun n u => u.1 ≤ 9 ∧ 9 < u.1 + n ∧ -1 ≤ u.2.toInt ∧ u.2.toInt ≤ 80) (fun u h => by omega) (fun n_50 ih_50 u hI H locs hP hD hS ls hl => ?_) (10) (0, r_42) (by show 0 ≤ 9 ∧ 9 < 0 + 10 ∧ -1 ≤ r_42.toInt ∧ r_42.toInt ≤ 80; exact ⟨by decide, by decide, by omega, by omega⟩) hP hD hS (lv_sub hl [0, 1, 2, 3, 4, 5, 6] rfl)
    obtain ⟨k, f⟩ := u
    have hP : va_P D vwCl [(ru, .inr (6, [.ref la, .ref gr, .ref rk, .ref rs, .ref rt, .int tt, .int kg, .ref rv, .int vc])), (la, .inr (1, [.int lg, .int lh, .int lt, .int lr, .int lc])), (gr, .inr (0, [.ref gt, .ref gg, .ref gn, .int gs, .int gm])), (gt, .inl (cI, 81, .inl tg)), (gn, .inl (cI, 324, .inl nb)), (nw, .inr (8, [.ref sf, .ref sh, .int tu])), (sf, .inl (cI, 40, .inl ff)), (sh, .inl (cI, 81, .inl fh))] H := hP
    have hD : va_D A [(ru, .inr (6, [.ref la, .ref gr, .ref rk, .ref rs, .ref rt, .int tt, .int kg, .ref rv, .int vc])), (la, .inr (1, [.int lg, .int lh, .int lt, .int lr, .int lc])), (gr, .inr (0, [.ref gt, .ref gg, .ref gn, .int gs, .int gm])), (gt, .inl (cI, 81, .inl tg)), (gn, .inl (cI, 324, .inl nb)), (nw, .inr (8, [.ref sf, .ref sh, .int tu])), (sf, .inl (cI, 40, .inl ff)), (sh, .inl (cI, 81, .inl fh))] := hD
    have hl : lv_has ls 7 [(6, .int (nI k)), (5, .int f), (4, .int lim), (0, .ref ru), (1, .ref nw), (2, .int p1), (3, .int p2)] := hl
    have hI : k ≤ 9 ∧ 9 < k + (n_50 + 1) ∧ -1 ≤ f.toInt ∧ f.toInt ≤ 80 := hI
    have hk0 := kt_nI (n := k) (by omega)
    refine lv_iload hx hb dX6_room_50 (lv_at hl 0 rfl) ?_
    refine lv_iload hx hb dX6_room_52 (lv_at hl 2 rfl) ?_
    refine lv_icmp_ge (tgt := 101) hx hb dX6_room_54 (by decide) (fun c_54 => ?_) (fun c_54 => ?_)
    · have d_54 := c_54
      simp only [kt_lt, kt_le, kt_eq, kt_c0, kt_c1, kt_c2, kt_c3, kt_c4, kt_c8, kt_c9, kt_cm1, kt_c81, kt_c40, kt_c7, kt_c5, kt_c6, kt_c512, kt_c10, kt_c10000] at d_54
      refine lv_iload hx hb dX6_room_101 (lv_at hl 0 rfl) ?_
      exact kt_ri () hx hb hr hlk hS dX6_room_103 hP hD (by show 0 ≤ (nI k).toInt ∧ (nI k).toInt ≤ 9; omega)
    · have d_54 := c_54
      simp only [kt_lt, kt_le, kt_eq, kt_c0, kt_c1, kt_c2, kt_c3, kt_c4, kt_c8, kt_c9, kt_cm1, kt_c81, kt_c40, kt_c7, kt_c5, kt_c6, kt_c512, kt_c10, kt_c10000] at d_54
      refine lv_iload hx hb dX6_room_57 (lv_at hl 1 rfl) ?_
      refine lv_iconst (v := (-1)) hx hb dX6_room_59 (by decide) ?_
      refine lv_icmp_eq (tgt := 101) hx hb dX6_room_60 (by decide) (fun c_60 => ?_) (fun c_60 => ?_)
      · have d_60 := c_60
        simp only [kt_lt, kt_le, kt_eq, kt_c0, kt_c1, kt_c2, kt_c3, kt_c4, kt_c8, kt_c9, kt_cm1, kt_c81, kt_c40, kt_c7, kt_c5, kt_c6, kt_c512, kt_c10, kt_c10000] at d_60
        refine lv_iload hx hb dX6_room_101 (lv_at hl 0 rfl) ?_
        exact kt_ri () hx hb hr hlk hS dX6_room_103 hP hD (by show 0 ≤ (nI k).toInt ∧ (nI k).toInt ≤ 9; omega)
      · have d_60 := c_60
        simp only [kt_lt, kt_le, kt_eq, kt_c0, kt_c1, kt_c2, kt_c3, kt_c4, kt_c8, kt_c9, kt_cm1, kt_c81, kt_c40, kt_c7, kt_c5, kt_c6, kt_c512, kt_c10, kt_c10000] at d_60
        refine lv_aload_n hx hb dX6_room_63 rfl (lv_at hl 4 rfl) ?_
        refine lv_iload hx hb dX6_room_64 (lv_at hl 1 rfl) ?_
        refine kt_pi (wc := [(nw, .inr (8, [.ref sf, .ref sh, .int tu])), (sh, .inl (cI, 81, .inl fh))]) [5, 7] hP hD hS hA rfl (by decide) (fun hPc hDc => va_runV (As := [.int f]) (rest := []) ⟨hx, hb, hml, hown, hts⟩ (c_X8_holderOf l D cI cZ cB H.size nw sf sh tu fh f (by first | assumption | omega | rfl | decide)) (cwV 1 hts gX6_room_X8_holderOf rfl rfl rfl (by decide +kernel) ⟨Nat.le_of_ble_eq_true rfl, Nat.le_of_ble_eq_true rfl⟩) (kt_preV hN hK hPc hDc 0 (ci := 8) (q := (RX8, TX8, 3)) rfl rfl) rfl rfl hl.1 rfl (lv_room (Nat.le_of_ble_eq_true rfl)) dX6_room_66 ⟨Nat.le_of_ble_eq_true rfl, Nat.le_of_ble_eq_true rfl⟩) (fun r_66 _ H locs hw_66 hP hS => ?_)
        refine lv_iconst (v := (-1)) hx hb dX6_room_69 (by decide) ?_
        refine lv_icmp_ne (tgt := 101) hx hb dX6_room_70 (by decide) (fun c_70 => ?_) (fun c_70 => ?_)
        · have d_70 := c_70
          simp only [kt_lt, kt_le, kt_eq, kt_c0, kt_c1, kt_c2, kt_c3, kt_c4, kt_c8, kt_c9, kt_cm1, kt_c81, kt_c40, kt_c7, kt_c5, kt_c6, kt_c512, kt_c10, kt_c10000] at d_70
          refine lv_iload hx hb dX6_room_101 (lv_at hl 0 rfl) ?_
          exact kt_ri () hx hb hr hlk hS dX6_room_103 hP hD (by show 0 ≤ (nI k).toInt ∧ (nI k).toInt ≤ 9; omega)
        · have d_70 := c_70
          simp only [kt_lt, kt_le, kt_eq, kt_c0, kt_c1, kt_c2, kt_c3, kt_c4, kt_c8, kt_c9, kt_cm1, kt_c81, kt_c40, kt_c7, kt_c5, kt_c6, kt_c512, kt_c10, kt_c10000] at d_70
          refine lv_aload_n hx hb dX6_room_73 rfl (lv_at hl 3 rfl) ?_
          refine lv_iload hx hb dX6_room_74 (lv_at hl 1 rfl) ?_
          refine lv_iload_n hx hb dX6_room_76 rfl (lv_at hl 5 rfl) ?_
          refine kt_pi (wc := [(ru, .inr (6, [.ref la, .ref gr, .ref rk, .ref rs, .ref rt, .int tt, .int kg, .ref rv, .int vc])), (gr, .inr (0, [.ref gt, .ref gg, .ref gn, .int gs, .int gm])), (gt, .inl (cI, 81, .inl tg))]) [0, 2, 3] hP hD hS hA rfl (by decide) (fun hPc hDc => va_runV (As := [.int f, .int p1]) (rest := []) ⟨hx, hb, hml, hown, hts⟩ (c_X6_bears l D cI cZ cB H.size ru la gr rk rs rt rv tt kg vc gt gg gn gs gm tg f p1 (by first | assumption | omega | rfl | decide) (by first | assumption | omega | rfl | decide)) (cwV 2 hts gX6_room_X6_bears rfl rfl rfl (by decide +kernel) ⟨Nat.le_of_ble_eq_true rfl, Nat.le_of_ble_eq_true rfl⟩) (kt_preV hN hK hPc hDc 0 (ci := 6) (q := (RX6, TX6, 9)) rfl rfl) rfl rfl hl.1 rfl (lv_room (Nat.le_of_ble_eq_true rfl)) dX6_room_77 ⟨Nat.le_of_ble_eq_true rfl, Nat.le_of_ble_eq_true rfl⟩) (fun r_77 _ H locs hw_77 hP hS => ?_)
          refine lv_if_eq (tgt := 101) hx hb dX6_room_80 (by decide) (fun c_80 => ?_) (fun c_80 => ?_)
          · have d_80 := c_80
            simp only [kt_lt, kt_le, kt_eq, kt_c0, kt_c1, kt_c2, kt_c3, kt_c4, kt_c8, kt_c9, kt_cm1, kt_c81, kt_c40, kt_c7, kt_c5, kt_c6, kt_c512, kt_c10, kt_c10000] at d_80
            refine lv_iload hx hb dX6_room_101 (lv_at hl 0 rfl) ?_
            exact kt_ri () hx hb hr hlk hS dX6_room_103 hP hD (by show 0 ≤ (nI k).toInt ∧ (nI k).toInt ≤ 9; omega)
          · have d_80 := c_80
            simp only [kt_lt, kt_le, kt_eq, kt_c0, kt_c1, kt_c2, kt_c3, kt_c4, kt_c8, kt_c9, kt_cm1, kt_c81, kt_c40, kt_c7, kt_c5, kt_c6, kt_c512, kt_c10, kt_c10000] at d_80
            refine lv_iinc (v := nI (k + 1)) (lv' := [(6, .int (nI (k + 1))), (5, .int f), (4, .int lim), (0, .ref ru), (1, .ref nw), (2, .int p1), (3, .int p2)]) hx hb dX6_room_83 hl (k := 0) rfl (nI_1 _) (by decide) rfl (fun ls hl => ?_)
            refine lv_aload_n hx hb dX6_room_86 rfl (lv_at hl 3 rfl) ?_
            refine va_get (D := D) (ci := 6) (C := RX6) (T := TX6) (N := 9) hx hb hts iw_X6_room_X6 hown hK hP 0 rfl rfl 1 (by decide) (hts (.fieldLink RX6 12 "KingTable$Rules" "ground" "LKingTable$Ground;") (kt_wp_X6_room__X6_room_r1 kt_wm2)) (fun _ h9 => h9) rfl dX6_room_87 ?_
            refine lv_iload hx hb dX6_room_90 (lv_at hl 1 rfl) ?_
            refine lv_iload_n hx hb dX6_room_92 rfl (lv_at hl 6 rfl) ?_
            refine kt_pi (wc := [(gr, .inr (0, [.ref gt, .ref gg, .ref gn, .int gs, .int gm])), (gn, .inl (cI, 324, .inl nb))]) [2, 4] hP hD hS hA rfl (by decide) (fun hPc hDc => va_runV (As := [.int f, .int p2]) (rest := []) ⟨hx, hb, hml, hown, hts⟩ (c_X0_beside l D cI cZ cB H.size gr gt gg gn gs gm nb f p2 (by first | assumption | omega | rfl | decide) (by first | assumption | omega | rfl | decide)) (cwV 2 hts gX6_room_X0_beside rfl rfl rfl (by decide +kernel) ⟨Nat.le_of_ble_eq_true rfl, Nat.le_of_ble_eq_true rfl⟩) (kt_preV hN hK hPc hDc 0 (ci := 0) (q := (RX0, TX0, 5)) rfl rfl) rfl rfl hl.1 rfl (lv_room (Nat.le_of_ble_eq_true rfl)) dX6_room_93 ⟨Nat.le_of_ble_eq_true rfl, Nat.le_of_ble_eq_true rfl⟩) (fun r_93 _ H locs hw_93 hP hS => ?_)
            refine lv_istore (lv' := [(5, .int r_93), (6, .int (nI (k + 1))), (4, .int lim), (0, .ref ru), (1, .ref nw), (2, .int p1), (3, .int p2)]) hx hb dX6_room_96 hl (by decide) rfl (fun ls hl => ?_)
            refine lv_goto (tgt := 50) hx hb dX6_room_98 (by decide) ?_
            exact ih_50 ((k + 1), r_93) (by show (k + 1) ≤ 9 ∧ 9 < (k + 1) + n_50 ∧ -1 ≤ r_93.toInt ∧ r_93.toInt ≤ 80; omega) H _ hP hD hS ls (lv_sub hl [1, 0, 2, 3, 4, 5, 6] rfl)
  refine lv_icmp_ne (tgt := 28) hx hb dX6_room_5 (by decide) (fun c_5 => ?_) (fun c_5 => ?_)
  · have d_5 := c_5
    simp only [kt_lt, kt_le, kt_eq, kt_c0, kt_c1, kt_c2, kt_c3, kt_c4, kt_c8, kt_c9, kt_cm1, kt_c81, kt_c40, kt_c7, kt_c5, kt_c6, kt_c512, kt_c10, kt_c10000] at d_5
    refine lv_bipush (v := 9) hx hb dX6_room_28 (by decide) ?_
    exact j_30 (9 : Int32) (by show 0 ≤ (9 : Int32).toInt ∧ (9 : Int32).toInt ≤ 9; first | omega | decide) H _ hP hD hS ls (lv_sub hl [0, 1, 2, 3] rfl)
  · have d_5 := c_5
    simp only [kt_lt, kt_le, kt_eq, kt_c0, kt_c1, kt_c2, kt_c3, kt_c4, kt_c8, kt_c9, kt_cm1, kt_c81, kt_c40, kt_c7, kt_c5, kt_c6, kt_c512, kt_c10, kt_c10000] at d_5
    refine lv_aload_n hx hb dX6_room_8 rfl (lv_at hl 0 rfl) ?_
    refine va_get (D := D) (ci := 6) (C := RX6) (T := TX6) (N := 9) hx hb hts iw_X6_room_X6 hown hK hP 0 rfl rfl 0 (by decide) (hts (.fieldLink RX6 36 "KingTable$Rules" "laws" "LKingTable$Laws;") (kt_wp_X6_room__X6_room_r1 kt_wm1)) (fun _ h9 => h9) rfl dX6_room_9 ?_
    refine va_getN (D := D) (ci := 1) (C := RX1) (T := TX1) (N := 5) hx hb hts iw_X6_room_X1 hown hK hP 1 rfl rfl 3 (by decide) (va_Nw.use (w := .fieldLinkNest RX6 58 "KingTable$Laws" "reach" "I" "KingTable") rfl (hN _ (by decide +kernel))) (fun _ h9 => h9) rfl dX6_room_12 ?_
    refine lv_if_le (tgt := 28) hx hb dX6_room_15 (by decide) (fun c_15 => ?_) (fun c_15 => ?_)
    · have d_15 := c_15
      simp only [kt_lt, kt_le, kt_eq, kt_c0, kt_c1, kt_c2, kt_c3, kt_c4, kt_c8, kt_c9, kt_cm1, kt_c81, kt_c40, kt_c7, kt_c5, kt_c6, kt_c512, kt_c10, kt_c10000] at d_15
      refine lv_bipush (v := 9) hx hb dX6_room_28 (by decide) ?_
      exact j_30 (9 : Int32) (by show 0 ≤ (9 : Int32).toInt ∧ (9 : Int32).toInt ≤ 9; first | omega | decide) H _ hP hD hS ls (lv_sub hl [0, 1, 2, 3] rfl)
    · have d_15 := c_15
      simp only [kt_lt, kt_le, kt_eq, kt_c0, kt_c1, kt_c2, kt_c3, kt_c4, kt_c8, kt_c9, kt_cm1, kt_c81, kt_c40, kt_c7, kt_c5, kt_c6, kt_c512, kt_c10, kt_c10000] at d_15
      refine lv_aload_n hx hb dX6_room_18 rfl (lv_at hl 0 rfl) ?_
      refine va_get (D := D) (ci := 6) (C := RX6) (T := TX6) (N := 9) hx hb hts iw_X6_room_X6 hown hK hP 0 rfl rfl 0 (by decide) (hts (.fieldLink RX6 36 "KingTable$Rules" "laws" "LKingTable$Laws;") (kt_wp_X6_room__X6_room_r1 kt_wm1)) (fun _ h9 => h9) rfl dX6_room_19 ?_
      refine va_getN (D := D) (ci := 1) (C := RX1) (T := TX1) (N := 5) hx hb hts iw_X6_room_X1 hown hK hP 1 rfl rfl 3 (by decide) (va_Nw.use (w := .fieldLinkNest RX6 58 "KingTable$Laws" "reach" "I" "KingTable") rfl (hN _ (by decide +kernel))) (fun _ h9 => h9) rfl dX6_room_22 ?_
      refine lv_goto (tgt := 30) hx hb dX6_room_25 (by decide) ?_
      exact j_30 lr (by show 0 ≤ lr.toInt ∧ lr.toInt ≤ 9; first | omega | decide) H _ hP hD hS ls (lv_sub hl [0, 1, 2, 3] rfl)

theorem iw_X6_canGo_X6 : ∀ w ∈ wsX60, w ∈ wsX6_canGo := fun _ h => kt_wp_X6_canGo__X60 h
theorem iw_X6_canGo_X8 : ∀ w ∈ wsX80, w ∈ wsX6_canGo := fun _ h => kt_wp_X6_canGo__X80 h
set_option maxHeartbeats 4000000 in
set_option maxRecDepth 100000 in
theorem c_X6_canGo (l : Launch) (D : va_G) (cI cZ cB : ClassId) (sz : Nat) (ru : Nat) (la : Nat) (gr : Nat) (rk : Nat) (rs : Nat) (rt : Nat) (rv : Nat) (tt : Int32) (kg : Int32) (vc : Int32) (lg : Int32) (lh : Int32) (lt : Int32) (lr : Int32) (lc : Int32) (gt : Nat) (gg : Nat) (gn : Nat) (gs : Int32) (gm : Int32) (tg : Nat → Int32) (nb : Nat → Int32) (nw : Nat) (sf : Nat) (sh : Nat) (tu : Int32) (ff : Nat → Int32) (fh : Nat → Int32) (fs : Nat → Int32) (hgs : 0 ≤ gs.toInt ∧ gs.toInt ≤ 81) (hgt : kt_r tg 81 0 2) (hnb : kt_r nb 324 (-1) 80) (hff : kt_r ff 40 (-1) 80) (hfh : kt_r fh 81 (-1) 39) (hlr : 0 ≤ lr.toInt ∧ lr.toInt ≤ 8) (htt : 0 ≤ tt.toInt ∧ tt.toInt ≤ 40) (hrs : kt_r fs 40 0 1) : kt_Mi l yX6_canGo wsX6_canGo { frames := 2, cells := 0, slots := 0, locals := 49 } D (kt_ty cI cZ cB) [.ref ru, .ref nw] sz [(ru, .inr (6, [.ref la, .ref gr, .ref rk, .ref rs, .ref rt, .int tt, .int kg, .ref rv, .int vc])), (la, .inr (1, [.int lg, .int lh, .int lt, .int lr, .int lc])), (gr, .inr (0, [.ref gt, .ref gg, .ref gn, .int gs, .int gm])), (gt, .inl (cI, 81, .inl tg)), (gn, .inl (cI, 324, .inl nb)), (nw, .inr (8, [.ref sf, .ref sh, .int tu])), (sf, .inl (cI, 40, .inl ff)), (sh, .inl (cI, 81, .inl fh)), (rs, .inl (cI, 40, .inl fs))] (fun (r : Int32) (u : Unit) => 0 ≤ r.toInt ∧ r.toInt ≤ 1) (fun (u : Unit) => [(ru, .inr (6, [.ref la, .ref gr, .ref rk, .ref rs, .ref rt, .int tt, .int kg, .ref rv, .int vc])), (la, .inr (1, [.int lg, .int lh, .int lt, .int lr, .int lc])), (gr, .inr (0, [.ref gt, .ref gg, .ref gn, .int gs, .int gm])), (gt, .inl (cI, 81, .inl tg)), (gn, .inl (cI, 324, .inl nb)), (nw, .inr (8, [.ref sf, .ref sh, .int tu])), (sf, .inl (cI, 40, .inl ff)), (sh, .inl (cI, 81, .inl fh)), (rs, .inl (cI, 40, .inl fs))]) 0 0 := by
  refine kt_Mi.of (cc := cX6_canGo) (maxL := 4) (ret := some .boolean) (by decide) rfl (Nat.le_of_ble_eq_true rfl) ?_
  intro p e s m below meth c A ls H hAt hP hD hS hl
  obtain ⟨hx, hb, hr, hml, hown, hts, hN, hK, hlk, hnm, hA⟩ := hAt
  have hl : lv_has ls 4 [(0, .ref ru), (1, .ref nw)] := hl
  have hown : s.vm.findClass RX6 = some m.cls := hown
  refine lv_iconst (v := 0) hx hb dX6_canGo_0 (by decide) ?_
  refine lv_istore_n (lv' := [(2, .int 0), (0, .ref ru), (1, .ref nw)]) hx hb dX6_canGo_1 rfl hl (by decide) rfl (fun ls hl => ?_)
  refine kt_loop (σ := Nat) 2 4 (fun u => [(ru, .inr (6, [.ref la, .ref gr, .ref rk, .ref rs, .ref rt, .int tt, .int kg, .ref rv, .int vc])), (la, .inr (1, [.int lg, .int lh, .int lt, .int lr, .int lc])), (gr, .inr (0, [.ref gt, .ref gg, .ref gn, .int gs, .int gm])), (gt, .inl (cI, 81, .inl tg)), (gn, .inl (cI, 324, .inl nb)), (nw, .inr (8, [.ref sf, .ref sh, .int tu])), (sf, .inl (cI, 40, .inl ff)), (sh, .inl (cI, 81, .inl fh)), (rs, .inl (cI, 40, .inl fs))]) (fun u => [(2, .int (nI u)), (0, .ref ru), (1, .ref nw)]) (fun n u => u ≤ 40 ∧ 40 < u + n) (fun u h => by omega) (fun n_2 ih_2 u hI H locs hP hD hS ls hl => ?_) (41) 0 (by show 0 ≤ 40 ∧ 40 < 0 + 41; exact ⟨by decide, by decide⟩) hP hD hS (lv_sub hl [0, 1, 2] rfl)
  obtain ⟨k, rfl⟩ : ∃ z, z = u := ⟨_, rfl⟩
  have hP : va_P D vwCl [(ru, .inr (6, [.ref la, .ref gr, .ref rk, .ref rs, .ref rt, .int tt, .int kg, .ref rv, .int vc])), (la, .inr (1, [.int lg, .int lh, .int lt, .int lr, .int lc])), (gr, .inr (0, [.ref gt, .ref gg, .ref gn, .int gs, .int gm])), (gt, .inl (cI, 81, .inl tg)), (gn, .inl (cI, 324, .inl nb)), (nw, .inr (8, [.ref sf, .ref sh, .int tu])), (sf, .inl (cI, 40, .inl ff)), (sh, .inl (cI, 81, .inl fh)), (rs, .inl (cI, 40, .inl fs))] H := hP
  have hD : va_D A [(ru, .inr (6, [.ref la, .ref gr, .ref rk, .ref rs, .ref rt, .int tt, .int kg, .ref rv, .int vc])), (la, .inr (1, [.int lg, .int lh, .int lt, .int lr, .int lc])), (gr, .inr (0, [.ref gt, .ref gg, .ref gn, .int gs, .int gm])), (gt, .inl (cI, 81, .inl tg)), (gn, .inl (cI, 324, .inl nb)), (nw, .inr (8, [.ref sf, .ref sh, .int tu])), (sf, .inl (cI, 40, .inl ff)), (sh, .inl (cI, 81, .inl fh)), (rs, .inl (cI, 40, .inl fs))] := hD
  have hl : lv_has ls 4 [(2, .int (nI k)), (0, .ref ru), (1, .ref nw)] := hl
  have hI : k ≤ 40 ∧ 40 < k + (n_2 + 1) := hI
  have hk0 := kt_nI (n := k) (by omega)
  refine lv_iload_n hx hb dX6_canGo_2 rfl (lv_at hl 0 rfl) ?_
  refine lv_aload_n hx hb dX6_canGo_3 rfl (lv_at hl 1 rfl) ?_
  refine va_get (D := D) (ci := 6) (C := RX6) (T := TX6) (N := 9) hx hb hts iw_X6_canGo_X6 hown hK hP 0 rfl rfl 5 (by decide) (hts (.fieldLink RX6 40 "KingTable$Rules" "total" "I") (kt_wp_X6_canGo__X6_canGo_r1 kt_wm0)) (fun _ h9 => h9) rfl dX6_canGo_4 ?_
  refine lv_icmp_ge (tgt := 54) hx hb dX6_canGo_7 (by decide) (fun c_7 => ?_) (fun c_7 => ?_)
  · have d_7 := c_7
    simp only [kt_lt, kt_le, kt_eq, kt_c0, kt_c1, kt_c2, kt_c3, kt_c4, kt_c8, kt_c9, kt_cm1, kt_c81, kt_c40, kt_c7, kt_c5, kt_c6, kt_c512, kt_c10, kt_c10000] at d_7
    refine lv_iconst (v := 0) hx hb dX6_canGo_54 (by decide) ?_
    exact kt_rz () hx hb hr hlk hS dX6_canGo_55 hP hD (by show 0 ≤ (0 : Int32).toInt ∧ (0 : Int32).toInt ≤ 1; decide) rfl
  · have d_7 := c_7
    simp only [kt_lt, kt_le, kt_eq, kt_c0, kt_c1, kt_c2, kt_c3, kt_c4, kt_c8, kt_c9, kt_cm1, kt_c81, kt_c40, kt_c7, kt_c5, kt_c6, kt_c512, kt_c10, kt_c10000] at d_7
    refine lv_iconst (v := 0) hx hb dX6_canGo_10 (by decide) ?_
    refine lv_istore_n (lv' := [(3, .int 0), (2, .int (nI k)), (0, .ref ru), (1, .ref nw)]) hx hb dX6_canGo_11 rfl hl (by decide) rfl (fun ls hl => ?_)
    refine kt_loop (σ := Nat) 12 4 (fun u => [(ru, .inr (6, [.ref la, .ref gr, .ref rk, .ref rs, .ref rt, .int tt, .int kg, .ref rv, .int vc])), (la, .inr (1, [.int lg, .int lh, .int lt, .int lr, .int lc])), (gr, .inr (0, [.ref gt, .ref gg, .ref gn, .int gs, .int gm])), (gt, .inl (cI, 81, .inl tg)), (gn, .inl (cI, 324, .inl nb)), (nw, .inr (8, [.ref sf, .ref sh, .int tu])), (sf, .inl (cI, 40, .inl ff)), (sh, .inl (cI, 81, .inl fh)), (rs, .inl (cI, 40, .inl fs))]) (fun u => [(3, .int (nI u)), (2, .int (nI k)), (0, .ref ru), (1, .ref nw)]) (fun n u => u ≤ 4 ∧ 4 < u + n) (fun u h => by omega) (fun n_12 ih_12 u hI H locs hP hD hS ls hl => ?_) (5) 0 (by show 0 ≤ 4 ∧ 4 < 0 + 5; exact ⟨by decide, by decide⟩) hP hD hS (lv_sub hl [0, 1, 2, 3] rfl)
    obtain ⟨w, rfl⟩ : ∃ z, z = u := ⟨_, rfl⟩
    have hP : va_P D vwCl [(ru, .inr (6, [.ref la, .ref gr, .ref rk, .ref rs, .ref rt, .int tt, .int kg, .ref rv, .int vc])), (la, .inr (1, [.int lg, .int lh, .int lt, .int lr, .int lc])), (gr, .inr (0, [.ref gt, .ref gg, .ref gn, .int gs, .int gm])), (gt, .inl (cI, 81, .inl tg)), (gn, .inl (cI, 324, .inl nb)), (nw, .inr (8, [.ref sf, .ref sh, .int tu])), (sf, .inl (cI, 40, .inl ff)), (sh, .inl (cI, 81, .inl fh)), (rs, .inl (cI, 40, .inl fs))] H := hP
    have hD : va_D A [(ru, .inr (6, [.ref la, .ref gr, .ref rk, .ref rs, .ref rt, .int tt, .int kg, .ref rv, .int vc])), (la, .inr (1, [.int lg, .int lh, .int lt, .int lr, .int lc])), (gr, .inr (0, [.ref gt, .ref gg, .ref gn, .int gs, .int gm])), (gt, .inl (cI, 81, .inl tg)), (gn, .inl (cI, 324, .inl nb)), (nw, .inr (8, [.ref sf, .ref sh, .int tu])), (sf, .inl (cI, 40, .inl ff)), (sh, .inl (cI, 81, .inl fh)), (rs, .inl (cI, 40, .inl fs))] := hD
    have hl : lv_has ls 4 [(3, .int (nI w)), (2, .int (nI k)), (0, .ref ru), (1, .ref nw)] := hl
    have hI : w ≤ 4 ∧ 4 < w + (n_12 + 1) := hI
    have hw0 := kt_nI (n := w) (by omega)
    refine lv_aload_n hx hb dX6_canGo_12 rfl (lv_at hl 2 rfl) ?_
    refine va_get (D := D) (ci := 6) (C := RX6) (T := TX6) (N := 9) hx hb hts iw_X6_canGo_X6 hown hK hP 0 rfl rfl 3 (by decide) (hts (.fieldLink RX6 22 "KingTable$Rules" "sides" "[I") (kt_wp_X6_canGo__X6_canGo_r1 kt_wm1)) (fun _ h9 => h9) rfl dX6_canGo_13 ?_
    refine lv_iload_n hx hb dX6_canGo_16 rfl (lv_at hl 1 rfl) ?_
    have hi_1 : vp_in (nI k) 40 := by exact kt_in (by omega) (by omega)
    refine va_iald hx hb hK hP 8 0 rfl rfl hi_1 dX6_canGo_17 ?_
    refine lv_topi (fun a_17 ea_17 => ?_)
    have ra_17 := hrs.get hi_1
    rw [← ea_17] at ra_17
    refine lv_aload_n hx hb dX6_canGo_18 rfl (lv_at hl 3 rfl) ?_
    refine va_getN (D := D) (ci := 8) (C := RX8) (T := TX8) (N := 3) hx hb hts iw_X6_canGo_X8 hown hK hP 5 rfl rfl 2 (by decide) (va_Nw.use (w := .fieldLinkNest RX6 82 "KingTable$Stand" "turn" "I" "KingTable") rfl (hN _ (by decide +kernel))) (fun _ h9 => h9) rfl dX6_canGo_19 ?_
    refine lv_icmp_ne (tgt := 48) hx hb dX6_canGo_22 (by decide) (fun c_22 => ?_) (fun c_22 => ?_)
    · have d_22 := c_22
      simp only [kt_lt, kt_le, kt_eq, kt_c0, kt_c1, kt_c2, kt_c3, kt_c4, kt_c8, kt_c9, kt_cm1, kt_c81, kt_c40, kt_c7, kt_c5, kt_c6, kt_c512, kt_c10, kt_c10000] at d_22
      refine lv_iinc (v := nI (k + 1)) (lv' := [(2, .int (nI (k + 1))), (3, .int (nI w)), (0, .ref ru), (1, .ref nw)]) hx hb dX6_canGo_48 hl (k := 1) rfl (nI_1 _) (by decide) rfl (fun ls hl => ?_)
      refine lv_goto (tgt := 2) hx hb dX6_canGo_51 (by decide) ?_
      exact ih_2 (k + 1) (by show (k + 1) ≤ 40 ∧ 40 < (k + 1) + n_2; omega) H _ hP hD hS ls (lv_sub hl [0, 2, 3] rfl)
    · have d_22 := c_22
      simp only [kt_lt, kt_le, kt_eq, kt_c0, kt_c1, kt_c2, kt_c3, kt_c4, kt_c8, kt_c9, kt_cm1, kt_c81, kt_c40, kt_c7, kt_c5, kt_c6, kt_c512, kt_c10, kt_c10000] at d_22
      refine lv_iload_n hx hb dX6_canGo_25 rfl (lv_at hl 0 rfl) ?_
      refine lv_iconst (v := 4) hx hb dX6_canGo_26 (by decide) ?_
      refine lv_icmp_ge (tgt := 48) hx hb dX6_canGo_27 (by decide) (fun c_27 => ?_) (fun c_27 => ?_)
      · have d_27 := c_27
        simp only [kt_lt, kt_le, kt_eq, kt_c0, kt_c1, kt_c2, kt_c3, kt_c4, kt_c8, kt_c9, kt_cm1, kt_c81, kt_c40, kt_c7, kt_c5, kt_c6, kt_c512, kt_c10, kt_c10000] at d_27
        refine lv_iinc (v := nI (k + 1)) (lv' := [(2, .int (nI (k + 1))), (3, .int (nI w)), (0, .ref ru), (1, .ref nw)]) hx hb dX6_canGo_48 hl (k := 1) rfl (nI_1 _) (by decide) rfl (fun ls hl => ?_)
        refine lv_goto (tgt := 2) hx hb dX6_canGo_51 (by decide) ?_
        exact ih_2 (k + 1) (by show (k + 1) ≤ 40 ∧ 40 < (k + 1) + n_2; omega) H _ hP hD hS ls (lv_sub hl [0, 2, 3] rfl)
      · have d_27 := c_27
        simp only [kt_lt, kt_le, kt_eq, kt_c0, kt_c1, kt_c2, kt_c3, kt_c4, kt_c8, kt_c9, kt_cm1, kt_c81, kt_c40, kt_c7, kt_c5, kt_c6, kt_c512, kt_c10, kt_c10000] at d_27
        refine lv_aload_n hx hb dX6_canGo_30 rfl (lv_at hl 2 rfl) ?_
        refine lv_aload_n hx hb dX6_canGo_31 rfl (lv_at hl 3 rfl) ?_
        refine lv_iload_n hx hb dX6_canGo_32 rfl (lv_at hl 1 rfl) ?_
        refine lv_iload_n hx hb dX6_canGo_33 rfl (lv_at hl 0 rfl) ?_
        refine kt_pi (wc := [(ru, .inr (6, [.ref la, .ref gr, .ref rk, .ref rs, .ref rt, .int tt, .int kg, .ref rv, .int vc])), (la, .inr (1, [.int lg, .int lh, .int lt, .int lr, .int lc])), (gr, .inr (0, [.ref gt, .ref gg, .ref gn, .int gs, .int gm])), (gt, .inl (cI, 81, .inl tg)), (gn, .inl (cI, 324, .inl nb)), (nw, .inr (8, [.ref sf, .ref sh, .int tu])), (sf, .inl (cI, 40, .inl ff)), (sh, .inl (cI, 81, .inl fh))]) [0, 1, 2, 3, 4, 5, 6, 7] hP hD hS hA rfl (by decide) (fun hPc hDc => va_runV (As := [.ref nw, .int (nI k), .int (nI w)]) (rest := []) ⟨hx, hb, hml, hown, hts⟩ (c_X6_room l D cI cZ cB H.size ru la gr rk rs rt rv tt kg vc lg lh lt lr lc gt gg gn gs gm tg nb nw sf sh tu ff fh (nI k) (nI w) (by first | assumption | omega | rfl | decide) (by first | assumption | omega | rfl | decide) (by first | assumption | omega | rfl | decide) (by first | assumption | omega | rfl | decide) (by first | assumption | omega | rfl | decide) (by first | assumption | omega | rfl | decide)) (cwV 3 hts gX6_canGo_X6_room rfl rfl rfl (by decide +kernel) ⟨Nat.le_of_ble_eq_true rfl, Nat.le_of_ble_eq_true rfl⟩) (kt_preV hN hK hPc hDc 0 (ci := 6) (q := (RX6, TX6, 9)) rfl rfl) rfl rfl hl.1 rfl (lv_room (Nat.le_of_ble_eq_true rfl)) dX6_canGo_34 ⟨Nat.le_of_ble_eq_true rfl, Nat.le_of_ble_eq_true rfl⟩) (fun r_34 _ H locs hw_34 hP hS => ?_)
        refine lv_if_le (tgt := 42) hx hb dX6_canGo_37 (by decide) (fun c_37 => ?_) (fun c_37 => ?_)
        · have d_37 := c_37
          simp only [kt_lt, kt_le, kt_eq, kt_c0, kt_c1, kt_c2, kt_c3, kt_c4, kt_c8, kt_c9, kt_cm1, kt_c81, kt_c40, kt_c7, kt_c5, kt_c6, kt_c512, kt_c10, kt_c10000] at d_37
          refine lv_iinc (v := nI (w + 1)) (lv' := [(3, .int (nI (w + 1))), (2, .int (nI k)), (0, .ref ru), (1, .ref nw)]) hx hb dX6_canGo_42 hl (k := 0) rfl (nI_1 _) (by decide) rfl (fun ls hl => ?_)
          refine lv_goto (tgt := 12) hx hb dX6_canGo_45 (by decide) ?_
          exact ih_12 (w + 1) (by show (w + 1) ≤ 4 ∧ 4 < (w + 1) + n_12; omega) H _ hP hD hS ls (lv_sub hl [0, 1, 2, 3] rfl)
        · have d_37 := c_37
          simp only [kt_lt, kt_le, kt_eq, kt_c0, kt_c1, kt_c2, kt_c3, kt_c4, kt_c8, kt_c9, kt_cm1, kt_c81, kt_c40, kt_c7, kt_c5, kt_c6, kt_c512, kt_c10, kt_c10000] at d_37
          refine lv_iconst (v := 1) hx hb dX6_canGo_40 (by decide) ?_
          exact kt_rz () hx hb hr hlk hS dX6_canGo_41 hP hD (by show 0 ≤ (1 : Int32).toInt ∧ (1 : Int32).toInt ≤ 1; decide) rfl

theorem iw_X6_winner_X6 : ∀ w ∈ wsX60, w ∈ wsX6_winner := fun _ h => kt_wp_X6_winner__X60 h
theorem iw_X6_winner_X8 : ∀ w ∈ wsX80, w ∈ wsX6_winner := fun _ h => kt_wp_X6_winner__X80 h
set_option maxHeartbeats 4000000 in
set_option maxRecDepth 100000 in
theorem c_X6_winner (l : Launch) (D : va_G) (cI cZ cB : ClassId) (sz : Nat) (ru : Nat) (la : Nat) (gr : Nat) (rk : Nat) (rs : Nat) (rt : Nat) (rv : Nat) (tt : Int32) (kg : Int32) (vc : Int32) (lg : Int32) (lh : Int32) (lt : Int32) (lr : Int32) (lc : Int32) (gt : Nat) (gg : Nat) (gn : Nat) (gs : Int32) (gm : Int32) (tg : Nat → Int32) (nb : Nat → Int32) (nw : Nat) (sf : Nat) (sh : Nat) (tu : Int32) (ff : Nat → Int32) (fh : Nat → Int32) (fs : Nat → Int32) (gl : Nat → Int32) (hgs : 0 ≤ gs.toInt ∧ gs.toInt ≤ 81) (hgt : kt_r tg 81 0 2) (hnb : kt_r nb 324 (-1) 80) (hff : kt_r ff 40 (-1) 80) (hfh : kt_r fh 81 (-1) 39) (hlr : 0 ≤ lr.toInt ∧ lr.toInt ≤ 8) (htt : 0 ≤ tt.toInt ∧ tt.toInt ≤ 40) (hrs : kt_r fs 40 0 1) (hgg : kt_r gl 81 0 1) (htu : 0 ≤ tu.toInt ∧ tu.toInt ≤ 1) : kt_Mi l yX6_winner wsX6_winner { frames := 3, cells := 0, slots := 0, locals := 72 } D (kt_ty cI cZ cB) [.ref ru, .ref nw] sz [(ru, .inr (6, [.ref la, .ref gr, .ref rk, .ref rs, .ref rt, .int tt, .int kg, .ref rv, .int vc])), (la, .inr (1, [.int lg, .int lh, .int lt, .int lr, .int lc])), (gr, .inr (0, [.ref gt, .ref gg, .ref gn, .int gs, .int gm])), (gt, .inl (cI, 81, .inl tg)), (gn, .inl (cI, 324, .inl nb)), (nw, .inr (8, [.ref sf, .ref sh, .int tu])), (sf, .inl (cI, 40, .inl ff)), (sh, .inl (cI, 81, .inl fh)), (rs, .inl (cI, 40, .inl fs)), (gg, .inl (cZ, 81, .inl gl))] (fun (r : Int32) (u : Unit) => -1 ≤ r.toInt ∧ r.toInt ≤ 1) (fun (u : Unit) => [(ru, .inr (6, [.ref la, .ref gr, .ref rk, .ref rs, .ref rt, .int tt, .int kg, .ref rv, .int vc])), (la, .inr (1, [.int lg, .int lh, .int lt, .int lr, .int lc])), (gr, .inr (0, [.ref gt, .ref gg, .ref gn, .int gs, .int gm])), (gt, .inl (cI, 81, .inl tg)), (gn, .inl (cI, 324, .inl nb)), (nw, .inr (8, [.ref sf, .ref sh, .int tu])), (sf, .inl (cI, 40, .inl ff)), (sh, .inl (cI, 81, .inl fh)), (rs, .inl (cI, 40, .inl fs)), (gg, .inl (cZ, 81, .inl gl))]) 0 0 := by
  refine kt_Mi.of (cc := cX6_winner) (maxL := 3) (ret := some .int) (by decide) rfl (Nat.le_of_ble_eq_true rfl) ?_
  intro p e s m below meth c A ls H hAt hP hD hS hl
  obtain ⟨hx, hb, hr, hml, hown, hts, hN, hK, hlk, hnm, hA⟩ := hAt
  have hl : lv_has ls 3 [(0, .ref ru), (1, .ref nw)] := hl
  have hown : s.vm.findClass RX6 = some m.cls := hown
  refine lv_aload_n hx hb dX6_winner_0 rfl (lv_at hl 1 rfl) ?_
  refine lv_aload_n hx hb dX6_winner_1 rfl (lv_at hl 0 rfl) ?_
  refine va_get (D := D) (ci := 6) (C := RX6) (T := TX6) (N := 9) hx hb hts iw_X6_winner_X6 hown hK hP 0 rfl rfl 6 (by decide) (hts (.fieldLink RX6 29 "KingTable$Rules" "king" "I") (kt_wp_X6_winner__X6_winner_r1 kt_wm0)) (fun _ h9 => h9) rfl dX6_winner_2 ?_
  refine kt_pi (wc := [(nw, .inr (8, [.ref sf, .ref sh, .int tu])), (sf, .inl (cI, 40, .inl ff))]) [5, 6] hP hD hS hA rfl (by decide) (fun hPc hDc => va_runV (As := [.int kg]) (rest := []) ⟨hx, hb, hml, hown, hts⟩ (c_X8_fieldOf l D cI cZ cB H.size nw sf sh tu ff kg (by first | assumption | omega | rfl | decide)) (cwV 1 hts gX6_winner_X8_fieldOf rfl rfl rfl (by decide +kernel) ⟨Nat.le_of_ble_eq_true rfl, Nat.le_of_ble_eq_true rfl⟩) (kt_preV hN hK hPc hDc 0 (ci := 8) (q := (RX8, TX8, 3)) rfl rfl) rfl rfl hl.1 rfl (lv_room (Nat.le_of_ble_eq_true rfl)) dX6_winner_5 ⟨Nat.le_of_ble_eq_true rfl, Nat.le_of_ble_eq_true rfl⟩) (fun r_5 _ H locs hw_5 hP hS => ?_)
  refine lv_istore_n (lv' := [(2, .int r_5), (0, .ref ru), (1, .ref nw)]) hx hb dX6_winner_8 rfl hl (by decide) rfl (fun ls hl => ?_)
  refine lv_iload_n hx hb dX6_winner_9 rfl (lv_at hl 0 rfl) ?_
  refine lv_iconst (v := (-1)) hx hb dX6_winner_10 (by decide) ?_
  refine lv_icmp_ne (tgt := 16) hx hb dX6_winner_11 (by decide) (fun c_11 => ?_) (fun c_11 => ?_)
  · have d_11 := c_11
    simp only [kt_lt, kt_le, kt_eq, kt_c0, kt_c1, kt_c2, kt_c3, kt_c4, kt_c8, kt_c9, kt_cm1, kt_c81, kt_c40, kt_c7, kt_c5, kt_c6, kt_c512, kt_c10, kt_c10000] at d_11
    refine lv_aload_n hx hb dX6_winner_16 rfl (lv_at hl 1 rfl) ?_
    refine lv_iload_n hx hb dX6_winner_17 rfl (lv_at hl 0 rfl) ?_
    refine kt_pi (wc := [(ru, .inr (6, [.ref la, .ref gr, .ref rk, .ref rs, .ref rt, .int tt, .int kg, .ref rv, .int vc])), (gr, .inr (0, [.ref gt, .ref gg, .ref gn, .int gs, .int gm])), (gg, .inl (cZ, 81, .inl gl))]) [0, 2, 9] hP hD hS hA rfl (by decide) (fun hPc hDc => va_runV (As := [.int r_5]) (rest := []) ⟨hx, hb, hml, hown, hts⟩ (c_X6_isGoal l D cI cZ cB H.size ru la gr rk rs rt rv tt kg vc gt gg gn gs gm gl r_5 (by first | assumption | omega | rfl | decide) (by first | assumption | omega | rfl | decide)) (cwV 1 hts gX6_winner_X6_isGoal rfl rfl rfl (by decide +kernel) ⟨Nat.le_of_ble_eq_true rfl, Nat.le_of_ble_eq_true rfl⟩) (kt_preV hN hK hPc hDc 0 (ci := 6) (q := (RX6, TX6, 9)) rfl rfl) rfl rfl hl.1 rfl (lv_room (Nat.le_of_ble_eq_true rfl)) dX6_winner_18 ⟨Nat.le_of_ble_eq_true rfl, Nat.le_of_ble_eq_true rfl⟩) (fun r_18 _ H locs hw_18 hP hS => ?_)
    refine lv_if_eq (tgt := 26) hx hb dX6_winner_21 (by decide) (fun c_21 => ?_) (fun c_21 => ?_)
    · have d_21 := c_21
      simp only [kt_lt, kt_le, kt_eq, kt_c0, kt_c1, kt_c2, kt_c3, kt_c4, kt_c8, kt_c9, kt_cm1, kt_c81, kt_c40, kt_c7, kt_c5, kt_c6, kt_c512, kt_c10, kt_c10000] at d_21
      refine lv_aload_n hx hb dX6_winner_26 rfl (lv_at hl 1 rfl) ?_
      refine lv_aload_n hx hb dX6_winner_27 rfl (lv_at hl 2 rfl) ?_
      refine kt_pi (wc := [(ru, .inr (6, [.ref la, .ref gr, .ref rk, .ref rs, .ref rt, .int tt, .int kg, .ref rv, .int vc])), (la, .inr (1, [.int lg, .int lh, .int lt, .int lr, .int lc])), (gr, .inr (0, [.ref gt, .ref gg, .ref gn, .int gs, .int gm])), (gt, .inl (cI, 81, .inl tg)), (gn, .inl (cI, 324, .inl nb)), (nw, .inr (8, [.ref sf, .ref sh, .int tu])), (sf, .inl (cI, 40, .inl ff)), (sh, .inl (cI, 81, .inl fh)), (rs, .inl (cI, 40, .inl fs))]) [0, 1, 2, 3, 4, 5, 6, 7, 8] hP hD hS hA rfl (by decide) (fun hPc hDc => va_runV (As := [.ref nw]) (rest := []) ⟨hx, hb, hml, hown, hts⟩ (c_X6_canGo l D cI cZ cB H.size ru la gr rk rs rt rv tt kg vc lg lh lt lr lc gt gg gn gs gm tg nb nw sf sh tu ff fh fs (by first | assumption | omega | rfl | decide) (by first | assumption | omega | rfl | decide) (by first | assumption | omega | rfl | decide) (by first | assumption | omega | rfl | decide) (by first | assumption | omega | rfl | decide) (by first | assumption | omega | rfl | decide) (by first | assumption | omega | rfl | decide) (by first | assumption | omega | rfl | decide)) (cwV 1 hts gX6_winner_X6_canGo rfl rfl rfl (by decide +kernel) ⟨Nat.le_of_ble_eq_true rfl, Nat.le_of_ble_eq_true rfl⟩) (kt_preV hN hK hPc hDc 0 (ci := 6) (q := (RX6, TX6, 9)) rfl rfl) rfl rfl hl.1 rfl (lv_room (Nat.le_of_ble_eq_true rfl)) dX6_winner_28 ⟨Nat.le_of_ble_eq_true rfl, Nat.le_of_ble_eq_true rfl⟩) (fun r_28 _ H locs hw_28 hP hS => ?_)
      refine lv_if_eq (tgt := 38) hx hb dX6_winner_31 (by decide) (fun c_31 => ?_) (fun c_31 => ?_)
      · have d_31 := c_31
        simp only [kt_lt, kt_le, kt_eq, kt_c0, kt_c1, kt_c2, kt_c3, kt_c4, kt_c8, kt_c9, kt_cm1, kt_c81, kt_c40, kt_c7, kt_c5, kt_c6, kt_c512, kt_c10, kt_c10000] at d_31
        refine lv_iconst (v := 1) hx hb dX6_winner_38 (by decide) ?_
        refine lv_aload_n hx hb dX6_winner_39 rfl (lv_at hl 2 rfl) ?_
        refine va_getN (D := D) (ci := 8) (C := RX8) (T := TX8) (N := 3) hx hb hts iw_X6_winner_X8 hown hK hP 5 rfl rfl 2 (by decide) (va_Nw.use (w := .fieldLinkNest RX6 82 "KingTable$Stand" "turn" "I" "KingTable") rfl (hN _ (by decide +kernel))) (fun _ h9 => h9) rfl dX6_winner_40 ?_
        refine lv_isub hx hb dX6_winner_43 ?_
        refine lv_topi (fun t_43 et_43 => ?_)
        obtain ⟨k_43, hk_43, hm_43, hM_43⟩ := kt_subk et_43
        try simp only [kt_c0, kt_c1, kt_c2, kt_c3, kt_c4, kt_c8, kt_c9, kt_cm1, kt_c81, kt_c40, kt_c7, kt_c5, kt_c6, kt_c512, kt_c10, kt_c10000] at hk_43
        exact kt_ri () hx hb hr hlk hS dX6_winner_44 hP hD (by show -1 ≤ t_43.toInt ∧ t_43.toInt ≤ 1; first | omega | decide)
      · have d_31 := c_31
        simp only [kt_lt, kt_le, kt_eq, kt_c0, kt_c1, kt_c2, kt_c3, kt_c4, kt_c8, kt_c9, kt_cm1, kt_c81, kt_c40, kt_c7, kt_c5, kt_c6, kt_c512, kt_c10, kt_c10000] at d_31
        refine lv_iconst (v := (-1)) hx hb dX6_winner_34 (by decide) ?_
        refine lv_goto (tgt := 44) hx hb dX6_winner_35 (by decide) ?_
        exact kt_ri () hx hb hr hlk hS dX6_winner_44 hP hD (by show -1 ≤ (-1 : Int32).toInt ∧ (-1 : Int32).toInt ≤ 1; first | omega | decide)
    · have d_21 := c_21
      simp only [kt_lt, kt_le, kt_eq, kt_c0, kt_c1, kt_c2, kt_c3, kt_c4, kt_c8, kt_c9, kt_cm1, kt_c81, kt_c40, kt_c7, kt_c5, kt_c6, kt_c512, kt_c10, kt_c10000] at d_21
      refine lv_iconst (v := 0) hx hb dX6_winner_24 (by decide) ?_
      exact kt_ri () hx hb hr hlk hS dX6_winner_25 hP hD (by show -1 ≤ (0 : Int32).toInt ∧ (0 : Int32).toInt ≤ 1; first | omega | decide)
  · have d_11 := c_11
    simp only [kt_lt, kt_le, kt_eq, kt_c0, kt_c1, kt_c2, kt_c3, kt_c4, kt_c8, kt_c9, kt_cm1, kt_c81, kt_c40, kt_c7, kt_c5, kt_c6, kt_c512, kt_c10, kt_c10000] at d_11
    refine lv_iconst (v := 1) hx hb dX6_winner_14 (by decide) ?_
    exact kt_ri () hx hb hr hlk hS dX6_winner_15 hP hD (by show -1 ≤ (1 : Int32).toInt ∧ (1 : Int32).toInt ≤ 1; first | omega | decide)

theorem iw_X6_isFoe_X6 : ∀ w ∈ wsX60, w ∈ wsX6_isFoe := fun _ h => kt_wp_X6_isFoe__X60 h
theorem iw_X6_isFoe_X0 : ∀ w ∈ wsX00, w ∈ wsX6_isFoe := fun _ h => kt_wp_X6_isFoe__X00 h
theorem iw_X6_isFoe_X8 : ∀ w ∈ wsX80, w ∈ wsX6_isFoe := fun _ h => kt_wp_X6_isFoe__X80 h
theorem iw_X6_isCaught_X6 : ∀ w ∈ wsX60, w ∈ wsX6_isCaught := fun _ h => kt_wp_X6_isCaught__X60 h
theorem iw_X6_isCaught_X1 : ∀ w ∈ wsX10, w ∈ wsX6_isCaught := fun _ h => kt_wp_X6_isCaught__X10 h
theorem iw_X6_addVictim_X6 : ∀ w ∈ wsX60, w ∈ wsX6_addVictim := fun _ h => kt_wp_X6_addVictim__X60 h
theorem iw_X6_findVictims_X6 : ∀ w ∈ wsX60, w ∈ wsX6_findVictims := fun _ h => kt_wp_X6_findVictims__X60 h