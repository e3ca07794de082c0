theorem iw_X8_fieldOf_X8 : ∀ w ∈ wsX80, w ∈ wsX8_fieldOf := fun _ h => kt_wp_X8_fieldOf__X80 h
set_option maxHeartbeats 4000000 in
set_option maxRecDepth 100000 in
theorem c_X8_fieldOf (l : Launch) (D : va_G) (cI cZ cB : ClassId) (sz : Nat) (nw : Nat) (sf : Nat) (sh : Nat) (tu : Int32) (ff : Nat → Int32) (p1 : Int32) (hff : kt_r ff 40 (-1) 80) : kt_Mi l yX8_fieldOf wsX8_fieldOf { frames := 0, cells := 0, slots := 0, locals := 0 } D (kt_ty cI cZ cB) [.ref nw, .int p1] sz [(nw, .inr (8, [.ref sf, .ref sh, .int tu])), (sf, .inl (cI, 40, .inl ff))] (fun (r : Int32) (u : Unit) => -1 ≤ r.toInt ∧ r.toInt ≤ 80) (fun (u : Unit) => [(nw, .inr (8, [.ref sf, .ref sh, .int tu])), (sf, .inl (cI, 40, .inl ff))]) 0 0 := by
  refine kt_Mi.of (cc := cX8_fieldOf) (maxL := 2) (ret := some .int) (by decide) rfl (Nat.le_of_ble_eq_true rfl) ?_
  intro p e s m below meth c A ls H hAt hP hD hS hl
  obtain ⟨hx, hb, hr, hml, hown, hts, hN, hK, hlk, hnm, hA⟩ := hAt
  have hl : lv_has ls 2 [(0, .ref nw), (1, .int p1)] := hl
  have hown : s.vm.findClass RX8 = some m.cls := hown
  refine lv_iload_n hx hb dX8_fieldOf_0 rfl (lv_at hl 1 rfl) ?_
  refine lv_if_lt (tgt := 19) hx hb dX8_fieldOf_1 (by decide) (fun c_1 => ?_) (fun c_1 => ?_)
  · have d_1 := c_1
    simp only [kt_lt, kt_le, kt_eq, kt_c0, kt_c1, kt_c2, kt_c3, kt_c4, kt_c8, kt_c9, kt_cm1, kt_c81, kt_c40, kt_c7, kt_c5, kt_c6, kt_c512, kt_c10, kt_c10000] at d_1
    refine lv_iconst (v := (-1)) hx hb dX8_fieldOf_19 (by decide) ?_
    exact kt_ri () hx hb hr hlk hS dX8_fieldOf_20 hP hD (by show -1 ≤ (-1 : Int32).toInt ∧ (-1 : Int32).toInt ≤ 80; first | omega | decide)
  · have d_1 := c_1
    simp only [kt_lt, kt_le, kt_eq, kt_c0, kt_c1, kt_c2, kt_c3, kt_c4, kt_c8, kt_c9, kt_cm1, kt_c81, kt_c40, kt_c7, kt_c5, kt_c6, kt_c512, kt_c10, kt_c10000] at d_1
    refine lv_iload_n hx hb dX8_fieldOf_4 rfl (lv_at hl 1 rfl) ?_
    refine lv_bipush (v := 40) hx hb dX8_fieldOf_5 (by decide) ?_
    refine lv_icmp_ge (tgt := 19) hx hb dX8_fieldOf_7 (by decide) (fun c_7 => ?_) (fun c_7 => ?_)
    · have d_7 := c_7
      simp only [kt_lt, kt_le, kt_eq, kt_c0, kt_c1, kt_c2, kt_c3, kt_c4, kt_c8, kt_c9, kt_cm1, kt_c81, kt_c40, kt_c7, kt_c5, kt_c6, kt_c512, kt_c10, kt_c10000] at d_7
      refine lv_iconst (v := (-1)) hx hb dX8_fieldOf_19 (by decide) ?_
      exact kt_ri () hx hb hr hlk hS dX8_fieldOf_20 hP hD (by show -1 ≤ (-1 : Int32).toInt ∧ (-1 : Int32).toInt ≤ 80; first | omega | decide)
    · have d_7 := c_7
      simp only [kt_lt, kt_le, kt_eq, kt_c0, kt_c1, kt_c2, kt_c3, kt_c4, kt_c8, kt_c9, kt_cm1, kt_c81, kt_c40, kt_c7, kt_c5, kt_c6, kt_c512, kt_c10, kt_c10000] at d_7
      refine lv_aload_n hx hb dX8_fieldOf_10 rfl (lv_at hl 0 rfl) ?_
      refine va_get (D := D) (ci := 8) (C := RX8) (T := TX8) (N := 3) hx hb hts iw_X8_fieldOf_X8 hown hK hP 0 rfl rfl 0 (by decide) (hts (.fieldLink RX8 9 "KingTable$Stand" "fields" "[I") (List.mem_cons_of_mem _ (List.mem_append_left _ (List.Mem.head _)))) (fun _ h9 => h9) rfl dX8_fieldOf_11 ?_
      refine lv_iload_n hx hb dX8_fieldOf_14 rfl (lv_at hl 1 rfl) ?_
      have hi_1 : vp_in p1 40 := by exact kt_in (by omega) (by omega)
      refine va_iald hx hb hK hP 1 0 rfl rfl hi_1 dX8_fieldOf_15 ?_
      refine lv_topi (fun a_15 ea_15 => ?_)
      have ra_15 := hff.get hi_1
      rw [← ea_15] at ra_15
      refine lv_goto (tgt := 20) hx hb dX8_fieldOf_16 (by decide) ?_
      exact kt_ri () hx hb hr hlk hS dX8_fieldOf_20 hP hD (by show -1 ≤ a_15.toInt ∧ a_15.toInt ≤ 80; first | omega | decide)

theorem iw_X8_holderOf_X8 : ∀ w ∈ wsX80, w ∈ wsX8_holderOf := fun _ h => kt_wp_X8_holderOf__X80 h
set_option maxHeartbeats 4000000 in
set_option maxRecDepth 100000 in
theorem c_X8_holderOf (l : Launch) (D : va_G) (cI cZ cB : ClassId) (sz : Nat) (nw : Nat) (sf : Nat) (sh : Nat) (tu : Int32) (fh : Nat → Int32) (p1 : Int32) (hfh : kt_r fh 81 (-1) 39) : kt_Mi l yX8_holderOf wsX8_holderOf { frames := 0, cells := 0, slots := 0, locals := 0 } D (kt_ty cI cZ cB) [.ref nw, .int p1] sz [(nw, .inr (8, [.ref sf, .ref sh, .int tu])), (sh, .inl (cI, 81, .inl fh))] (fun (r : Int32) (u : Unit) => -1 ≤ r.toInt ∧ r.toInt ≤ 39) (fun (u : Unit) => [(nw, .inr (8, [.ref sf, .ref sh, .int tu])), (sh, .inl (cI, 81, .inl fh))]) 0 0 := by
  refine kt_Mi.of (cc := cX8_holderOf) (maxL := 2) (ret := some .int) (by decide) rfl (Nat.le_of_ble_eq_true rfl) ?_
  intro p e s m below meth c A ls H hAt hP hD hS hl
  obtain ⟨hx, hb, hr, hml, hown, hts, hN, hK, hlk, hnm, hA⟩ := hAt
  have hl : lv_has ls 2 [(0, .ref nw), (1, .int p1)] := hl
  have hown : s.vm.findClass RX8 = some m.cls := hown
  refine lv_iload_n hx hb dX8_holderOf_0 rfl (lv_at hl 1 rfl) ?_
  refine lv_if_lt (tgt := 19) hx hb dX8_holderOf_1 (by decide) (fun c_1 => ?_) (fun c_1 => ?_)
  · have d_1 := c_1
    simp only [kt_lt, kt_le, kt_eq, kt_c0, kt_c1, kt_c2, kt_c3, kt_c4, kt_c8, kt_c9, kt_cm1, kt_c81, kt_c40, kt_c7, kt_c5, kt_c6, kt_c512, kt_c10, kt_c10000] at d_1
    refine lv_iconst (v := (-1)) hx hb dX8_holderOf_19 (by decide) ?_
    exact kt_ri () hx hb hr hlk hS dX8_holderOf_20 hP hD (by show -1 ≤ (-1 : Int32).toInt ∧ (-1 : Int32).toInt ≤ 39; first | omega | decide)
  · have d_1 := c_1
    simp only [kt_lt, kt_le, kt_eq, kt_c0, kt_c1, kt_c2, kt_c3, kt_c4, kt_c8, kt_c9, kt_cm1, kt_c81, kt_c40, kt_c7, kt_c5, kt_c6, kt_c512, kt_c10, kt_c10000] at d_1
    refine lv_iload_n hx hb dX8_holderOf_4 rfl (lv_at hl 1 rfl) ?_
    refine lv_bipush (v := 81) hx hb dX8_holderOf_5 (by decide) ?_
    refine lv_icmp_ge (tgt := 19) hx hb dX8_holderOf_7 (by decide) (fun c_7 => ?_) (fun c_7 => ?_)
    · have d_7 := c_7
      simp only [kt_lt, kt_le, kt_eq, kt_c0, kt_c1, kt_c2, kt_c3, kt_c4, kt_c8, kt_c9, kt_cm1, kt_c81, kt_c40, kt_c7, kt_c5, kt_c6, kt_c512, kt_c10, kt_c10000] at d_7
      refine lv_iconst (v := (-1)) hx hb dX8_holderOf_19 (by decide) ?_
      exact kt_ri () hx hb hr hlk hS dX8_holderOf_20 hP hD (by show -1 ≤ (-1 : Int32).toInt ∧ (-1 : Int32).toInt ≤ 39; first | omega | decide)
    · have d_7 := c_7
      simp only [kt_lt, kt_le, kt_eq, kt_c0, kt_c1, kt_c2, kt_c3, kt_c4, kt_c8, kt_c9, kt_cm1, kt_c81, kt_c40, kt_c7, kt_c5, kt_c6, kt_c512, kt_c10, kt_c10000] at d_7
      refine lv_aload_n hx hb dX8_holderOf_10 rfl (lv_at hl 0 rfl) ?_
      refine va_get (D := D) (ci := 8) (C := RX8) (T := TX8) (N := 3) hx hb hts iw_X8_holderOf_X8 hown hK hP 0 rfl rfl 1 (by decide) (hts (.fieldLink RX8 15 "KingTable$Stand" "holders" "[I") (List.mem_cons_of_mem _ (List.mem_append_left _ (List.Mem.head _)))) (fun _ h9 => h9) rfl dX8_holderOf_11 ?_
      refine lv_iload_n hx hb dX8_holderOf_14 rfl (lv_at hl 1 rfl) ?_
      have hi_1 : vp_in p1 81 := by exact kt_in (by omega) (by omega)
      refine va_iald hx hb hK hP 1 0 rfl rfl hi_1 dX8_holderOf_15 ?_
      refine lv_topi (fun a_15 ea_15 => ?_)
      have ra_15 := hfh.get hi_1
      rw [← ea_15] at ra_15
      refine lv_goto (tgt := 20) hx hb dX8_holderOf_16 (by decide) ?_
      exact kt_ri () hx hb hr hlk hS dX8_holderOf_20 hP hD (by show -1 ≤ a_15.toInt ∧ a_15.toInt ≤ 39; first | omega | decide)

theorem iw_X8_place_X8 : ∀ w ∈ wsX80, w ∈ wsX8_place := fun _ h => kt_wp_X8_place__X80 h
theorem iw_X6_isPiece_X6 : ∀ w ∈ wsX60, w ∈ wsX6_isPiece := fun _ h => kt_wp_X6_isPiece__X60 h
set_option maxHeartbeats 4000000 in
set_option maxRecDepth 100000 in
theorem c_X6_isPiece (l : Launch) (D : va_G) (cI cZ cB : ClassId) (sz : Nat) (ru : Nat) (la : Nat) (gr : Nat) (rk : Nat) (rs : Nat) (rt : Nat) (rv : Nat) (tt : Int32) (kg : Int32) (vc : Int32) (p1 : Int32) : kt_Mi l yX6_isPiece wsX6_isPiece { frames := 0, cells := 0, slots := 0, locals := 0 } D (kt_ty cI cZ cB) [.ref ru, .int p1] sz [(ru, .inr (6, [.ref la, .ref gr, .ref rk, .ref rs, .ref rt, .int tt, .int kg, .ref rv, .int vc]))] (fun (r : Int32) (u : Unit) => kt_B r (0 ≤ p1.toInt ∧ p1.toInt < tt.toInt)) (fun (u : Unit) => [(ru, .inr (6, [.ref la, .ref gr, .ref rk, .ref rs, .ref rt, .int tt, .int kg, .ref rv, .int vc]))]) 0 0 := by
  refine kt_Mi.of (cc := cX6_isPiece) (maxL := 2) (ret := some .boolean) (by decide) rfl (Nat.le_of_ble_eq_true rfl) ?_
  intro p e s m below meth c A ls H hAt hP hD hS hl
  obtain ⟨hx, hb, hr, hml, hown, hts, hN, hK, hlk, hnm, hA⟩ := hAt
  have hl : lv_has ls 2 [(0, .ref ru), (1, .int p1)] := hl
  have hown : s.vm.findClass RX6 = some m.cls := hown
  refine lv_iload_n hx hb dX6_isPiece_0 rfl (lv_at hl 1 rfl) ?_
  refine lv_if_lt (tgt := 16) hx hb dX6_isPiece_1 (by decide) (fun c_1 => ?_) (fun c_1 => ?_)
  · have d_1 := c_1
    simp only [kt_lt, kt_le, kt_eq, kt_c0, kt_c1, kt_c2, kt_c3, kt_c4, kt_c8, kt_c9, kt_cm1, kt_c81, kt_c40, kt_c7, kt_c5, kt_c6, kt_c512, kt_c10, kt_c10000] at d_1
    refine lv_iconst (v := 0) hx hb dX6_isPiece_16 (by decide) ?_
    exact kt_rz () hx hb hr hlk hS dX6_isPiece_17 hP hD (by show kt_B (0 : Int32) (0 ≤ p1.toInt ∧ p1.toInt < tt.toInt); first | exact Or.inl ⟨rfl, by omega⟩ | exact Or.inr ⟨rfl, by omega⟩) rfl
  · have d_1 := c_1
    simp only [kt_lt, kt_le, kt_eq, kt_c0, kt_c1, kt_c2, kt_c3, kt_c4, kt_c8, kt_c9, kt_cm1, kt_c81, kt_c40, kt_c7, kt_c5, kt_c6, kt_c512, kt_c10, kt_c10000] at d_1
    refine lv_iload_n hx hb dX6_isPiece_4 rfl (lv_at hl 1 rfl) ?_
    refine lv_aload_n hx hb dX6_isPiece_5 rfl (lv_at hl 0 rfl) ?_
    refine va_get (D := D) (ci := 6) (C := RX6) (T := TX6) (N := 9) hx hb hts iw_X6_isPiece_X6 hown hK hP 0 rfl rfl 5 (by decide) (hts (.fieldLink RX6 40 "KingTable$Rules" "total" "I") (List.mem_cons_of_mem _ (List.mem_append_left _ (List.Mem.head _)))) (fun _ h9 => h9) rfl dX6_isPiece_6 ?_
    refine lv_icmp_ge (tgt := 16) hx hb dX6_isPiece_9 (by decide) (fun c_9 => ?_) (fun c_9 => ?_)
    · have d_9 := c_9
      simp only [kt_lt, kt_le, kt_eq, kt_c0, kt_c1, kt_c2, kt_c3, kt_c4, kt_c8, kt_c9, kt_cm1, kt_c81, kt_c40, kt_c7, kt_c5, kt_c6, kt_c512, kt_c10, kt_c10000] at d_9
      refine lv_iconst (v := 0) hx hb dX6_isPiece_16 (by decide) ?_
      exact kt_rz () hx hb hr hlk hS dX6_isPiece_17 hP hD (by show kt_B (0 : Int32) (0 ≤ p1.toInt ∧ p1.toInt < tt.toInt); first | exact Or.inl ⟨rfl, by omega⟩ | exact Or.inr ⟨rfl, by omega⟩) rfl
    · have d_9 := c_9
      simp only [kt_lt, kt_le, kt_eq, kt_c0, kt_c1, kt_c2, kt_c3, kt_c4, kt_c8, kt_c9, kt_cm1, kt_c81, kt_c40, kt_c7, kt_c5, kt_c6, kt_c512, kt_c10, kt_c10000] at d_9
      refine lv_iconst (v := 1) hx hb dX6_isPiece_12 (by decide) ?_
      refine lv_goto (tgt := 17) hx hb dX6_isPiece_13 (by decide) ?_
      exact kt_rz () hx hb hr hlk hS dX6_isPiece_17 hP hD (by show kt_B (1 : Int32) (0 ≤ p1.toInt ∧ p1.toInt < tt.toInt); first | exact Or.inl ⟨rfl, by omega⟩ | exact Or.inr ⟨rfl, by omega⟩) rfl

theorem iw_X6_bears_X6 : ∀ w ∈ wsX60, w ∈ wsX6_bears := fun _ h => kt_wp_X6_bears__X60 h
theorem iw_X6_bears_X0 : ∀ w ∈ wsX00, w ∈ wsX6_bears := fun _ h => kt_wp_X6_bears__X00 h
theorem iw_X6_isGoal_X6 : ∀ w ∈ wsX60, w ∈ wsX6_isGoal := fun _ h => kt_wp_X6_isGoal__X60 h
theorem iw_X6_isGoal_X0 : ∀ w ∈ wsX00, w ∈ wsX6_isGoal := fun _ h => kt_wp_X6_isGoal__X00 h
set_option maxHeartbeats 4000000 in
set_option maxRecDepth 100000 in
theorem c_X6_isGoal (l : Launch) (D : va_G) (cI cZ cB : ClassId) (sz : Nat) (ru : Nat) (la : Nat) (gr : Nat) (rk : Nat) (rs : Nat) (rt : Nat) (rv : Nat) (tt : Int32) (kg : Int32) (vc : Int32) (gt : Nat) (gg : Nat) (gn : Nat) (gs : Int32) (gm : Int32) (gl : Nat → Int32) (p1 : Int32) (hgs : 0 ≤ gs.toInt ∧ gs.toInt ≤ 81) (hgg : kt_r gl 81 0 1) : kt_Mi l yX6_isGoal wsX6_isGoal { frames := 0, cells := 0, slots := 0, locals := 0 } D (kt_ty cI cZ cB) [.ref ru, .int p1] sz [(ru, .inr (6, [.ref la, .ref gr, .ref rk, .ref rs, .ref rt, .int tt, .int kg, .ref rv, .int vc])), (gr, .inr (0, [.ref gt, .ref gg, .ref gn, .int gs, .int gm])), (gg, .inl (cZ, 81, .inl gl))] (fun (r : Int32) (u : Unit) => 0 ≤ r.toInt ∧ r.toInt ≤ 1) (fun (u : Unit) => [(ru, .inr (6, [.ref la, .ref gr, .ref rk, .ref rs, .ref rt, .int tt, .int kg, .ref rv, .int vc])), (gr, .inr (0, [.ref gt, .ref gg, .ref gn, .int gs, .int gm])), (gg, .inl (cZ, 81, .inl gl))]) 0 0 := by
  refine kt_Mi.of (cc := cX6_isGoal) (maxL := 2) (ret := some .boolean) (by decide) rfl (Nat.le_of_ble_eq_true rfl) ?_
  intro p e s m below meth c A ls H hAt hP hD hS hl
  obtain ⟨hx, hb, hr, hml, hown, hts, hN, hK, hlk, hnm, hA⟩ := hAt
  have hl : lv_has ls 2 [(0, .ref ru), (1, .int p1)] := hl
  have hown : s.vm.findClass RX6 = some m.cls := hown
  refine lv_iload_n hx hb dX6_isGoal_0 rfl (lv_at hl 1 rfl) ?_
  refine lv_if_lt (tgt := 31) hx hb dX6_isGoal_1 (by decide) (fun c_1 => ?_) (fun c_1 => ?_)
  · have d_1 := c_1
    simp only [kt_lt, kt_le, kt_eq, kt_c0, kt_c1, kt_c2, kt_c3, kt_c4, kt_c8, kt_c9, kt_cm1, kt_c81, kt_c40, kt_c7, kt_c5, kt_c6, kt_c512, kt_c10, kt_c10000] at d_1
    refine lv_iconst (v := 0) hx hb dX6_isGoal_31 (by decide) ?_
    exact kt_rz () hx hb hr hlk hS dX6_isGoal_32 hP hD (by show 0 ≤ (0 : Int32).toInt ∧ (0 : Int32).toInt ≤ 1; decide) rfl
  · have d_1 := c_1
    simp only [kt_lt, kt_le, kt_eq, kt_c0, kt_c1, kt_c2, kt_c3, kt_c4, kt_c8, kt_c9, kt_cm1, kt_c81, kt_c40, kt_c7, kt_c5, kt_c6, kt_c512, kt_c10, kt_c10000] at d_1
    refine lv_iload_n hx hb dX6_isGoal_4 rfl (lv_at hl 1 rfl) ?_
    refine lv_aload_n hx hb dX6_isGoal_5 rfl (lv_at hl 0 rfl) ?_
    refine va_get (D := D) (ci := 6) (C := RX6) (T := TX6) (N := 9) hx hb hts iw_X6_isGoal_X6 hown hK hP 0 rfl rfl 1 (by decide) (hts (.fieldLink RX6 12 "KingTable$Rules" "ground" "LKingTable$Ground;") (List.mem_cons_of_mem _ (List.mem_append_left _ (List.mem_append_left _ (List.Mem.head _))))) (fun _ h9 => h9) rfl dX6_isGoal_6 ?_
    refine va_getN (D := D) (ci := 0) (C := RX0) (T := TX0) (N := 5) hx hb hts iw_X6_isGoal_X0 hown hK hP 1 rfl rfl 3 (by decide) (va_Nw.use (w := .fieldLinkNest RX6 49 "KingTable$Ground" "size" "I" "KingTable") rfl (hN _ (by decide +kernel))) (fun _ h9 => h9) rfl dX6_isGoal_9 ?_
    refine lv_icmp_ge (tgt := 31) hx hb dX6_isGoal_12 (by decide) (fun c_12 => ?_) (fun c_12 => ?_)
    · have d_12 := c_12
      simp only [kt_lt, kt_le, kt_eq, kt_c0, kt_c1, kt_c2, kt_c3, kt_c4, kt_c8, kt_c9, kt_cm1, kt_c81, kt_c40, kt_c7, kt_c5, kt_c6, kt_c512, kt_c10, kt_c10000] at d_12
      refine lv_iconst (v := 0) hx hb dX6_isGoal_31 (by decide) ?_
      exact kt_rz () hx hb hr hlk hS dX6_isGoal_32 hP hD (by show 0 ≤ (0 : Int32).toInt ∧ (0 : Int32).toInt ≤ 1; decide) rfl
    · have d_12 := c_12
      simp only [kt_lt, kt_le, kt_eq, kt_c0, kt_c1, kt_c2, kt_c3, kt_c4, kt_c8, kt_c9, kt_cm1, kt_c81, kt_c40, kt_c7, kt_c5, kt_c6, kt_c512, kt_c10, kt_c10000] at d_12
      refine lv_aload_n hx hb dX6_isGoal_15 rfl (lv_at hl 0 rfl) ?_
      refine va_get (D := D) (ci := 6) (C := RX6) (T := TX6) (N := 9) hx hb hts iw_X6_isGoal_X6 hown hK hP 0 rfl rfl 1 (by decide) (hts (.fieldLink RX6 12 "KingTable$Rules" "ground" "LKingTable$Ground;") (List.mem_cons_of_mem _ (List.mem_append_left _ (List.mem_append_left _ (List.Mem.head _))))) (fun _ h9 => h9) rfl dX6_isGoal_16 ?_
      refine va_getN (D := D) (ci := 0) (C := RX0) (T := TX0) (N := 5) hx hb hts iw_X6_isGoal_X0 hown hK hP 1 rfl rfl 1 (by decide) (va_Nw.use (w := .fieldLinkNest RX6 55 "KingTable$Ground" "goals" "[Z" "KingTable") rfl (hN _ (by decide +kernel))) (fun _ h9 => h9) rfl dX6_isGoal_19 ?_
      refine lv_iload_n hx hb dX6_isGoal_22 rfl (lv_at hl 1 rfl) ?_
      have hi_1 : vp_in p1 81 := by exact kt_in (by omega) (by omega)
      refine va_zald hx hb hK hP 2 1 rfl rfl hi_1 dX6_isGoal_23 ?_
      refine lv_topi (fun a_23 ea_23 => ?_)
      have ra_23 := hgg.get hi_1
      rw [← ea_23] at ra_23
      refine lv_if_eq (tgt := 31) hx hb dX6_isGoal_24 (by decide) (fun c_24 => ?_) (fun c_24 => ?_)
      · have d_24 := c_24
        simp only [kt_lt, kt_le, kt_eq, kt_c0, kt_c1, kt_c2, kt_c3, kt_c4, kt_c8, kt_c9, kt_cm1, kt_c81, kt_c40, kt_c7, kt_c5, kt_c6, kt_c512, kt_c10, kt_c10000] at d_24
        refine lv_iconst (v := 0) hx hb dX6_isGoal_31 (by decide) ?_
        exact kt_rz () hx hb hr hlk hS dX6_isGoal_32 hP hD (by show 0 ≤ (0 : Int32).toInt ∧ (0 : Int32).toInt ≤ 1; decide) rfl
      · have d_24 := c_24
        simp only [kt_lt, kt_le, kt_eq, kt_c0, kt_c1, kt_c2, kt_c3, kt_c4, kt_c8, kt_c9, kt_cm1, kt_c81, kt_c40, kt_c7, kt_c5, kt_c6, kt_c512, kt_c10, kt_c10000] at d_24
        refine lv_iconst (v := 1) hx hb dX6_isGoal_27 (by decide) ?_
        refine lv_goto (tgt := 32) hx hb dX6_isGoal_28 (by decide) ?_
        exact kt_rz () hx hb hr hlk hS dX6_isGoal_32 hP hD (by show 0 ≤ (1 : Int32).toInt ∧ (1 : Int32).toInt ≤ 1; decide) rfl

theorem iw_X6_isBeyondReach_X6 : ∀ w ∈ wsX60, w ∈ wsX6_isBeyondReach := fun _ h => kt_wp_X6_isBeyondReach__X60 h
theorem iw_X6_isBeyondReach_X1 : ∀ w ∈ wsX10, w ∈ wsX6_isBeyondReach := fun _ h => kt_wp_X6_isBeyondReach__X10 h
theorem iw_X6_room_X6 : ∀ w ∈ wsX60, w ∈ wsX6_room := fun _ h => kt_wp_X6_room__X60 h
theorem iw_X6_room_X1 : ∀ w ∈ wsX10, w ∈ wsX6_room := fun _ h => kt_wp_X6_room__X10 h
theorem iw_X6_canGo_X6 : ∀ w ∈ wsX60, w ∈ wsX6_canGo := fun _ h => kt_wp_X6_canGo__X60 h
theorem iw_X6_canGo_X8 : ∀ w ∈ wsX80, w ∈ wsX6_canGo := fun _ h => kt_wp_X6_canGo__X80 h
theorem iw_X6_winner_X6 : ∀ w ∈ wsX60, w ∈ wsX6_winner := fun _ h => kt_wp_X6_winner__X60 h
theorem iw_X6_winner_X8 : ∀ w ∈ wsX80, w ∈ wsX6_winner := fun _ h => kt_wp_X6_winner__X80 h
theorem iw_X6_isFoe_X6 : ∀ w ∈ wsX60, w ∈ wsX6_isFoe := fun _ h => kt_wp_X6_isFoe__X60 h
theorem iw_X6_isFoe_X0 : ∀ w ∈ wsX00, w ∈ wsX6_isFoe := fun _ h => kt_wp_X6_isFoe__X00 h
theorem iw_X6_isFoe_X8 : ∀ w ∈ wsX80, w ∈ wsX6_isFoe := fun _ h => kt_wp_X6_isFoe__X80 h
theorem iw_X6_isCaught_X6 : ∀ w ∈ wsX60, w ∈ wsX6_isCaught := fun _ h => kt_wp_X6_isCaught__X60 h
theorem iw_X6_isCaught_X1 : ∀ w ∈ wsX10, w ∈ wsX6_isCaught := fun _ h => kt_wp_X6_isCaught__X10 h
theorem iw_X6_addVictim_X6 : ∀ w ∈ wsX60, w ∈ wsX6_addVictim := fun _ h => kt_wp_X6_addVictim__X60 h
theorem iw_X6_findVictims_X6 : ∀ w ∈ wsX60, w ∈ wsX6_findVictims := fun _ h => kt_wp_X6_findVictims__X60 h