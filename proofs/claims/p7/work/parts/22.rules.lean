theorem iw_X8_fieldOf_X8 : ∀ w ∈ wsX80, w ∈ wsX8_fieldOf := fun _ h => kt_wp_X8_fieldOf__X80 h
set_option maxHeartbeats 4000000 in
set_option maxRecDepth 100000 in
theorem c_X8_fieldOf (l : Launch) (D : va_G) (cI cZ cB : ClassId) (sz : Nat) (nw : Nat) (sf : Nat) (sh : Nat) (tu : Int32) (ff : Nat → Int32) (p1 : Int32) (hff : kt_r ff 40 (-1) 80) : kt_Mi l yX8_fieldOf wsX8_fieldOf { frames := 0, cells := 0, slots := 0, locals := 0 } D (kt_ty cI cZ cB) [.ref nw, .int p1] sz [(nw, .inr (8, [.ref sf, .ref sh, .int tu])), (sf, .inl (cI, 40, .inl ff))] (fun (r : Int32) (u : Unit) => -1 ≤ r.toInt ∧ r.toInt ≤ 80) (fun (u : Unit) => [(nw, .inr (8, [.ref sf, .ref sh, .int tu])), (sf, .inl (cI, 40, .inl ff))]) 0 0 := by
  refine kt_Mi.of (cc := cX8_fieldOf) (maxL := 2) (ret := some .int) (by decide) rfl (Nat.le_of_ble_eq_true rfl) ?_
  intro p e s m below meth c A ls H hAt hP hD hS hl
  obtain ⟨hx, hb, hr, hml, hown, hts, hN, hK, hlk, hnm, hA⟩ := hAt
  have hl : lv_has ls 2 [(0, .ref nw), (1, .int p1)] := hl
  have hown : s.vm.findClass RX8 = some m.cls := hown
  refine lv_iload_n hx hb dX8_fieldOf_0 rfl (lv_at hl 1 rfl) ?_
  refine lv_if_lt (tgt := 19) hx hb dX8_fieldOf_1 (by decide) (fun c_1 => ?_) (fun c_1 => ?_)
  · have d_1 := c_1
    simp only [kt_lt, kt_le, kt_eq, kt_c0, kt_c1, kt_c2, kt_c3, kt_c4, kt_c8, kt_c9, kt_cm1, kt_c81, kt_c40, kt_c7, kt_c5, kt_c6, kt_c512, kt_c10, kt_c10000] at d_1
    refine lv_iconst (v := (-1)) hx hb dX8_fieldOf_19 (by decide) ?_
    exact kt_ri () hx hb hr hlk hS dX8_fieldOf_20 hP hD (by show -1 ≤ (-1 : Int32).toInt ∧ (-1 : Int32).toInt ≤ 80; first | omega | decide)
  · have d_1 := c_1
    simp only [kt_lt, kt_le, kt_eq, kt_c0, kt_c1, kt_c2, kt_c3, kt_c4, kt_c8, kt_c9, kt_cm1, kt_c81, kt_c40, kt_c7, kt_c5, kt_c6, kt_c512, kt_c10, kt_c10000] at d_1
    refine lv_iload_n hx hb dX8_fieldOf_4 rfl (lv_at hl 1 rfl) ?_
    refine lv_bipush (v := 40) hx hb dX8_fieldOf_5 (by decide) ?_
    refine lv_icmp_ge (tgt := 19) hx hb dX8_fieldOf_7 (by decide) (fun c_7 => ?_) (fun c_7 => ?_)
    · have d_7 := c_7
      simp only [kt_lt, kt_le, kt_eq, kt_c0, kt_c1, kt_c2, kt_c3, kt_c4, kt_c8, kt_c9, kt_cm1, kt_c81, kt_c40, kt_c7, kt_c5, kt_c6, kt_c512, kt_c10, kt_c10000] at d_7
      refine lv_iconst (v := (-1)) hx hb dX8_fieldOf_19 (by decide) ?_
      exact kt_ri () hx hb hr hlk hS dX8_fieldOf_20 hP hD (by show -1 ≤ (-1 : Int32).toInt ∧ (-1 : Int32).toInt ≤ 80; first | omega | decide)
    · have d_7 := c_7
      simp only [kt_lt, kt_le, kt_eq, kt_c0, kt_c1, kt_c2, kt_c3, kt_c4, kt_c8, kt_c9, kt_cm1, kt_c81, kt_c40, kt_c7, kt_c5, kt_c6, kt_c512, kt_c10, kt_c10000] at d_7
      refine lv_aload_n hx hb dX8_fieldOf_10 rfl (lv_at hl 0 rfl) ?_
      refine va_get (D := D) (ci := 8) (C := RX8) (T := TX8) (N := 3) hx hb hts iw_X8_fieldOf_X8 hown hK hP 0 rfl rfl 0 (by decide) (hts (.fieldLink RX8 9 "KingTable$Stand" "fields" "[I") (List.mem_cons_of_mem _ (List.mem_append_left _ (List.Mem.head _)))) (fun _ h9 => h9) rfl dX8_fieldOf_11 ?_
      refine lv_iload_n hx hb dX8_fieldOf_14 rfl (lv_at hl 1 rfl) ?_
      have hi_1 : vp_in p1 40 := by exact kt_in (by omega) (by omega)
      refine va_iald hx hb hK hP 1 0 rfl rfl hi_1 dX8_fieldOf_15 ?_
      refine lv_topi (fun a_15 ea_15 => ?_)
      have ra_15 := hff.get hi_1
      rw [← ea_15] at ra_15
      refine lv_goto (tgt := 20) hx hb dX8_fieldOf_16 (by decide) ?_
      exact kt_ri () hx hb hr hlk hS dX8_fieldOf_20 hP hD (by show -1 ≤ a_15.toInt ∧ a_15.toInt ≤ 80; first | omega | decide)

theorem iw_X8_holderOf_X8 : ∀ w ∈ wsX80, w ∈ wsX8_holderOf := fun _ h => kt_wp_X8_holderOf__X80 h
set_option maxHeartbeats 4000000 in
set_option maxRecDepth 100000 in
theorem c_X8_holderOf (l : Launch) (D : va_G) (cI cZ cB : ClassId) (sz : Nat) (nw : Nat) (sf : Nat) (sh : Nat) (tu : Int32) (fh : Nat → Int32) (p1 : Int32) (hfh : kt_r fh 81 (-1) 39) : kt_Mi l yX8_holderOf wsX8_holderOf { frames := 0, cells := 0, slots := 0, locals := 0 } D (kt_ty cI cZ cB) [.ref nw, .int p1] sz [(nw, .inr (8, [.ref sf, .ref sh, .int tu])), (sh, .inl (cI, 81, .inl fh))] (fun (r : Int32) (u : Unit) => -1 ≤ r.toInt ∧ r.toInt ≤ 39) (fun (u : Unit) => [(nw, .inr (8, [.ref sf, .ref sh, .int tu])), (sh, .inl (cI, 81, .inl fh))]) 0 0 := by
  refine kt_Mi.of (cc := cX8_holderOf) (maxL := 2) (ret := some .int) (by decide) rfl (Nat.le_of_ble_eq_true rfl) ?_
  intro p e s m below meth c A ls H hAt hP hD hS hl
  obtain ⟨hx, hb, hr, hml, hown, hts, hN, hK, hlk, hnm, hA⟩ := hAt
  have hl : lv_has ls 2 [(0, .ref nw), (1, .int p1)] := hl
  have hown : s.vm.findClass RX8 = some m.cls := hown
  refine lv_iload_n hx hb dX8_holderOf_0 rfl (lv_at hl 1 rfl) ?_
  refine lv_if_lt (tgt := 19) hx hb dX8_holderOf_1 (by decide) (fun c_1 => ?_) (fun c_1 => ?_)
  · have d_1 := c_1
    simp only [kt_lt, kt_le, kt_eq, kt_c0, kt_c1, kt_c2, kt_c3, kt_c4, kt_c8, kt_c9, kt_cm1, kt_c81, kt_c40, kt_c7, kt_c5, kt_c6, kt_c512, kt_c10, kt_c10000] at d_1
    refine lv_iconst (v := (-1)) hx hb dX8_holderOf_19 (by decide) ?_
    exact kt_ri () hx hb hr hlk hS dX8_holderOf_20 hP hD (by show -1 ≤ (-1 : Int32).toInt ∧ (-1 : Int32).toInt ≤ 39; first | omega | decide)
  · have d_1 := c_1
    simp only [kt_lt, kt_le, kt_eq, kt_c0, kt_c1, kt_c2, kt_c3, kt_c4, kt_c8, kt_c9, kt_cm1, kt_c81, kt_c40, kt_c7, kt_c5, kt_c6, kt_c512, kt_c10, kt_c10000] at d_1
    refine lv_iload_n hx hb dX8_holderOf_4 rfl (lv_at hl 1 rfl) ?_
    refine lv_bipush (v := 81) hx hb dX8_holderOf_5 (by decide) ?_
    refine lv_icmp_ge (tgt := 19) hx hb dX8_holderOf_7 (by decide) (fun c_7 => ?_) (fun c_7 => ?_)
    · have d_7 := c_7
      simp only [kt_lt, kt_le, kt_eq, kt_c0, kt_c1, kt_c2, kt_c3, kt_c4, kt_c8, kt_c9, kt_cm1, kt_c81, kt_c40, kt_c7, kt_c5, kt_c6, kt_c512, kt_c10, kt_c10000] at d_7
      refine lv_iconst (v := (-1)) hx hb dX8_holderOf_19 (by decide) ?_
      exact kt_ri () hx hb hr hlk hS dX8_holderOf_20 hP hD (by show -1 ≤ (-1 : Int32).toInt ∧ (-1 : Int32).toInt ≤ 39; first | omega | decide)
    · have d_7 := c_7
      simp only [kt_lt, kt_le, kt_eq, kt_c0, kt_c1, kt_c2, kt_c3, kt_c4, kt_c8, kt_c9, kt_cm1, kt_c81, kt_c40, kt_c7, kt_c5, kt_c6, kt_c512, kt_c10, kt_c10000] at d_7
      refine lv_aload_n hx hb dX8_holderOf_10 rfl (lv_at hl 0 rfl) ?_
      refine va_get (D := D) (ci := 8) (C := RX8) (T := TX8) (N := 3) hx hb hts iw_X8_holderOf_X8 hown hK hP 0 rfl rfl 1 (by decide) (hts (.fieldLink RX8 15 "KingTable$Stand" "holders" "[I") (List.mem_cons_of_mem _ (List.mem_append_left _ (List.Mem.head _)))) (fun _ h9 => h9) rfl dX8_holderOf_11 ?_
      refine lv_iload_n hx hb dX8_holderOf_14 rfl (lv_at hl 1 rfl) ?_
      have hi_1 : vp_in p1 81 := by exact kt_in (by omega) (by omega)
      refine va_iald hx hb hK hP 1 0 rfl rfl hi_1 dX8_holderOf_15 ?_
      refine lv_topi (fun a_15 ea_15 => ?_)
      have ra_15 := hfh.get hi_1
      rw [← ea_15] at ra_15
      refine lv_goto (tgt := 20) hx hb dX8_holderOf_16 (by decide) ?_
      exact kt_ri () hx hb hr hlk hS dX8_holderOf_20 hP hD (by show -1 ≤ a_15.toInt ∧ a_15.toInt ≤ 39; first | omega | decide)

theorem iw_X8_place_X8 : ∀ w ∈ wsX80, w ∈ wsX8_place := fun _ h => kt_wp_X8_place__X80 h
set_option maxHeartbeats 4000000 in
set_option maxRecDepth 100000 in
theorem c_X8_place (l : Launch) (D : va_G) (cI cZ cB : ClassId) (sz : Nat) (nw : Nat) (sf : Nat) (sh : Nat) (tu : Int32) (ff : Nat → Int32) (fh : Nat → Int32) (p1 : Int32) (p2 : Int32) (hff : kt_r ff 40 (-1) 80) (hfh : kt_r fh 81 (-1) 39) (hp2 : -1 ≤ p2.toInt ∧ p2.toInt ≤ 80) : kt_Mv l yX8_place wsX8_place { frames := 0, cells := 0, slots := 0, locals := 0 } D (kt_ty cI cZ cB) [.ref nw, .int p1, .int p2] sz [(nw, .inr (8, [.ref sf, .ref sh, .int tu])), (sf, .inl (cI, 40, .inl ff)), (sh, .inl (cI, 81, .inl fh))] (fun (u : (Nat → Int32) × (Nat → Int32)) => kt_r u.1 40 (-1) 80 ∧ kt_r u.2 81 (-1) 39) (fun (u : (Nat → Int32) × (Nat → Int32)) => [(nw, .inr (8, [.ref sf, .ref sh, .int tu])), (sf, .inl (cI, 40, .inl u.1)), (sh, .inl (cI, 81, .inl u.2))]) 0 0 := by
  refine kt_Mv.of (cc := cX8_place) (maxL := 4) (ret := none) (by decide) rfl (Nat.le_of_ble_eq_true rfl) ?_
  intro p e s m below meth c A ls H hAt hP hD hS hl
  obtain ⟨hx, hb, hr, hml, hown, hts, hN, hK, hlk, hnm, hA⟩ := hAt
  have hl : lv_has ls 4 [(0, .ref nw), (1, .int p1), (2, .int p2)] := hl
  have hown : s.vm.findClass RX8 = some m.cls := hown
  refine lv_iload_n hx hb dX8_place_0 rfl (lv_at hl 1 rfl) ?_
  refine lv_if_lt (tgt := 10) hx hb dX8_place_1 (by decide) (fun c_1 => ?_) (fun c_1 => ?_)
  · have d_1 := c_1
    simp only [kt_lt, kt_le, kt_eq, kt_c0, kt_c1, kt_c2, kt_c3, kt_c4, kt_c8, kt_c9, kt_cm1, kt_c81, kt_c40, kt_c7, kt_c5, kt_c6, kt_c512, kt_c10, kt_c10000] at d_1
    exact kt_rv (ff, fh) hx hb hr hlk hS dX8_place_10 hP hD (by show kt_r ff 40 (-1) 80 ∧ kt_r fh 81 (-1) 39; exact ⟨hff, hfh⟩)
  · have d_1 := c_1
    simp only [kt_lt, kt_le, kt_eq, kt_c0, kt_c1, kt_c2, kt_c3, kt_c4, kt_c8, kt_c9, kt_cm1, kt_c81, kt_c40, kt_c7, kt_c5, kt_c6, kt_c512, kt_c10, kt_c10000] at d_1
    refine lv_iload_n hx hb dX8_place_4 rfl (lv_at hl 1 rfl) ?_
    refine lv_bipush (v := 40) hx hb dX8_place_5 (by decide) ?_
    refine lv_icmp_lt (tgt := 11) hx hb dX8_place_7 (by decide) (fun c_7 => ?_) (fun c_7 => ?_)
    · have d_7 := c_7
      simp only [kt_lt, kt_le, kt_eq, kt_c0, kt_c1, kt_c2, kt_c3, kt_c4, kt_c8, kt_c9, kt_cm1, kt_c81, kt_c40, kt_c7, kt_c5, kt_c6, kt_c512, kt_c10, kt_c10000] at d_7
      refine lv_aload_n hx hb dX8_place_11 rfl (lv_at hl 0 rfl) ?_
      refine va_get (D := D) (ci := 8) (C := RX8) (T := TX8) (N := 3) hx hb hts iw_X8_place_X8 hown hK hP 0 rfl rfl 0 (by decide) (hts (.fieldLink RX8 9 "KingTable$Stand" "fields" "[I") (List.mem_cons_of_mem _ (List.mem_append_left _ (List.Mem.head _)))) (fun _ h9 => h9) rfl dX8_place_12 ?_
      refine lv_iload_n hx hb dX8_place_15 rfl (lv_at hl 1 rfl) ?_
      have hi_1 : vp_in p1 40 := by exact kt_in (by omega) (by omega)
      refine va_iald hx hb hK hP 1 0 rfl rfl hi_1 dX8_place_16 ?_
      refine lv_topi (fun a_16 ea_16 => ?_)
      have ra_16 := hff.get hi_1
      rw [← ea_16] at ra_16
      refine lv_istore_n (lv' := [(3, .int a_16), (0, .ref nw), (1, .int p1), (2, .int p2)]) hx hb dX8_place_17 rfl hl (by decide) rfl (fun ls hl => ?_)
      refine lv_iload_n hx hb dX8_place_18 rfl (lv_at hl 0 rfl) ?_
      refine kt_join (σ := (Nat → Int32)) 35 4 (fun u => [(nw, .inr (8, [.ref sf, .ref sh, .int tu])), (sf, .inl (cI, 40, .inl ff)), (sh, .inl (cI, 81, .inl u))]) (fun u => [(3, .int a_16), (0, .ref nw), (1, .int p1), (2, .int p2)]) (fun u => []) (fun u => kt_r u 81 (-1) 39) (D := D) (A := A) (H0 := s.heap) (fun u hI H locs hP hD hS ls hl => ?_) (fun j_35 => ?_)
      · obtain ⟨g, rfl⟩ : ∃ z, z = u := ⟨_, rfl⟩
        have hP : va_P D vwCl [(nw, .inr (8, [.ref sf, .ref sh, .int tu])), (sf, .inl (cI, 40, .inl ff)), (sh, .inl (cI, 81, .inl g))] H := hP
        have hD : va_D A [(nw, .inr (8, [.ref sf, .ref sh, .int tu])), (sf, .inl (cI, 40, .inl ff)), (sh, .inl (cI, 81, .inl g))] := hD
        have hl : lv_has ls 4 [(3, .int a_16), (0, .ref nw), (1, .int p1), (2, .int p2)] := hl
        have hI : kt_r g 81 (-1) 39 := hI
        have hfh := hI
        refine lv_aload_n hx hb dX8_place_35 rfl (lv_at hl 1 rfl) ?_
        refine va_get (D := D) (ci := 8) (C := RX8) (T := TX8) (N := 3) hx hb hts iw_X8_place_X8 hown hK hP 0 rfl rfl 0 (by decide) (hts (.fieldLink RX8 9 "KingTable$Stand" "fields" "[I") (List.mem_cons_of_mem _ (List.mem_append_left _ (List.Mem.head _)))) (fun _ h9 => h9) rfl dX8_place_36 ?_
        refine lv_iload_n hx hb dX8_place_39 rfl (lv_at hl 2 rfl) ?_
        refine lv_iload_n hx hb dX8_place_40 rfl (lv_at hl 3 rfl) ?_
        have hi_2 : vp_in p1 40 := by exact kt_in (by omega) (by omega)
        refine va_iast hx hb hK hP hD hS 1 0 rfl rfl hi_2 dX8_place_41 (fun H locs hP hD hS => ?_)
        have hff : kt_r (upd ff p1.toNatClampNeg p2) 40 (-1) 80 := hff.upd (by omega) (by omega)
        have hP : va_P D vwCl [(nw, .inr (8, [.ref sf, .ref sh, .int tu])), (sf, .inl (cI, 40, .inl (upd ff p1.toNatClampNeg p2))), (sh, .inl (cI, 81, .inl g))] H := hP
        have hD : va_D A [(nw, .inr (8, [.ref sf, .ref sh, .int tu])), (sf, .inl (cI, 40, .inl (upd ff p1.toNatClampNeg p2))), (sh, .inl (cI, 81, .inl g))] := hD
        refine lv_iload_n hx hb dX8_place_42 rfl (lv_at hl 3 rfl) ?_
        refine lv_if_lt (tgt := 59) hx hb dX8_place_43 (by decide) (fun c_43 => ?_) (fun c_43 => ?_)
        · have d_43 := c_43
          simp only [kt_lt, kt_le, kt_eq, kt_c0, kt_c1, kt_c2, kt_c3, kt_c4, kt_c8, kt_c9, kt_cm1, kt_c81, kt_c40, kt_c7, kt_c5, kt_c6, kt_c512, kt_c10, kt_c10000] at d_43
          exact kt_rv (upd ff p1.toNatClampNeg p2, g) hx hb hr hlk hS dX8_place_59 hP hD (by show kt_r (upd ff p1.toNatClampNeg p2) 40 (-1) 80 ∧ kt_r g 81 (-1) 39; exact ⟨hff, hfh⟩)
        · have d_43 := c_43
          simp only [kt_lt, kt_le, kt_eq, kt_c0, kt_c1, kt_c2, kt_c3, kt_c4, kt_c8, kt_c9, kt_cm1, kt_c81, kt_c40, kt_c7, kt_c5, kt_c6, kt_c512, kt_c10, kt_c10000] at d_43
          refine lv_iload_n hx hb dX8_place_46 rfl (lv_at hl 3 rfl) ?_
          refine lv_bipush (v := 81) hx hb dX8_place_47 (by decide) ?_
          refine lv_icmp_ge (tgt := 59) hx hb dX8_place_49 (by decide) (fun c_49 => ?_) (fun c_49 => ?_)
          · have d_49 := c_49
            simp only [kt_lt, kt_le, kt_eq, kt_c0, kt_c1, kt_c2, kt_c3, kt_c4, kt_c8, kt_c9, kt_cm1, kt_c81, kt_c40, kt_c7, kt_c5, kt_c6, kt_c512, kt_c10, kt_c10000] at d_49
            exact kt_rv (upd ff p1.toNatClampNeg p2, g) hx hb hr hlk hS dX8_place_59 hP hD (by show kt_r (upd ff p1.toNatClampNeg p2) 40 (-1) 80 ∧ kt_r g 81 (-1) 39; exact ⟨hff, hfh⟩)
          · have d_49 := c_49
            simp only [kt_lt, kt_le, kt_eq, kt_c0, kt_c1, kt_c2, kt_c3, kt_c4, kt_c8, kt_c9, kt_cm1, kt_c81, kt_c40, kt_c7, kt_c5, kt_c6, kt_c512, kt_c10, kt_c10000] at d_49
            refine lv_aload_n hx hb dX8_place_52 rfl (lv_at hl 1 rfl) ?_
            refine va_get (D := D) (ci := 8) (C := RX8) (T := TX8) (N := 3) hx hb hts iw_X8_place_X8 hown hK hP 0 rfl rfl 1 (by decide) (hts (.fieldLink RX8 15 "KingTable$Stand" "holders" "[I") (List.mem_cons_of_mem _ (List.mem_append_left _ (List.mem_cons_of_mem _ (List.Mem.head _))))) (fun _ h9 => h9) rfl dX8_place_53 ?_
            refine lv_iload_n hx hb dX8_place_56 rfl (lv_at hl 3 rfl) ?_
            refine lv_iload_n hx hb dX8_place_57 rfl (lv_at hl 2 rfl) ?_
            have hi_3 : vp_in p2 81 := by exact kt_in (by omega) (by omega)
            refine va_iast hx hb hK hP hD hS 2 0 rfl rfl hi_3 dX8_place_58 (fun H locs hP hD hS => ?_)
            have hfh : kt_r (upd g p2.toNatClampNeg p1) 81 (-1) 39 := hfh.upd (by omega) (by omega)
            have hP : va_P D vwCl [(nw, .inr (8, [.ref sf, .ref sh, .int tu])), (sf, .inl (cI, 40, .inl (upd ff p1.toNatClampNeg p2))), (sh, .inl (cI, 81, .inl (upd g p2.toNatClampNeg p1)))] H := hP
            have hD : va_D A [(nw, .inr (8, [.ref sf, .ref sh, .int tu])), (sf, .inl (cI, 40, .inl (upd ff p1.toNatClampNeg p2))), (sh, .inl (cI, 81, .inl (upd g p2.toNatClampNeg p1)))] := hD
            exact kt_rv (upd ff p1.toNatClampNeg p2, upd g p2.toNatClampNeg p1) hx hb hr hlk hS dX8_place_59 hP hD (by show kt_r (upd ff p1.toNatClampNeg p2) 40 (-1) 80 ∧ kt_r (upd g p2.toNatClampNeg p1) 81 (-1) 39; exact ⟨hff, hfh⟩)
      refine lv_if_lt (tgt := 35) hx hb dX8_place_19 (by decide) (fun c_19 => ?_) (fun c_19 => ?_)
      · have d_19 := c_19
        simp only [kt_lt, kt_le, kt_eq, kt_c0, kt_c1, kt_c2, kt_c3, kt_c4, kt_c8, kt_c9, kt_cm1, kt_c81, kt_c40, kt_c7, kt_c5, kt_c6, kt_c512, kt_c10, kt_c10000] at d_19
        exact j_35 fh (by show kt_r fh 81 (-1) 39; exact hfh) H _ hP hD hS ls (lv_sub hl [0, 1, 2, 3] rfl)
      · have d_19 := c_19
        simp only [kt_lt, kt_le, kt_eq, kt_c0, kt_c1, kt_c2, kt_c3, kt_c4, kt_c8, kt_c9, kt_cm1, kt_c81, kt_c40, kt_c7, kt_c5, kt_c6, kt_c512, kt_c10, kt_c10000] at d_19
        refine lv_iload_n hx hb dX8_place_22 rfl (lv_at hl 0 rfl) ?_
        refine lv_bipush (v := 81) hx hb dX8_place_23 (by decide) ?_
        refine lv_icmp_ge (tgt := 35) hx hb dX8_place_25 (by decide) (fun c_25 => ?_) (fun c_25 => ?_)
        · have d_25 := c_25
          simp only [kt_lt, kt_le, kt_eq, kt_c0, kt_c1, kt_c2, kt_c3, kt_c4, kt_c8, kt_c9, kt_cm1, kt_c81, kt_c40, kt_c7, kt_c5, kt_c6, kt_c512, kt_c10, kt_c10000] at d_25
          exact j_35 fh (by show kt_r fh 81 (-1) 39; exact hfh) H _ hP hD hS ls (lv_sub hl [0, 1, 2, 3] rfl)
        · have d_25 := c_25
          simp only [kt_lt, kt_le, kt_eq, kt_c0, kt_c1, kt_c2, kt_c3, kt_c4, kt_c8, kt_c9, kt_cm1, kt_c81, kt_c40, kt_c7, kt_c5, kt_c6, kt_c512, kt_c10, kt_c10000] at d_25
          refine lv_aload_n hx hb dX8_place_28 rfl (lv_at hl 1 rfl) ?_
          refine va_get (D := D) (ci := 8) (C := RX8) (T := TX8) (N := 3) hx hb hts iw_X8_place_X8 hown hK hP 0 rfl rfl 1 (by decide) (hts (.fieldLink RX8 15 "KingTable$Stand" "holders" "[I") (List.mem_cons_of_mem _ (List.mem_append_left _ (List.mem_cons_of_mem _ (List.Mem.head _))))) (fun _ h9 => h9) rfl dX8_place_29 ?_
          refine lv_iload_n hx hb dX8_place_32 rfl (lv_at hl 0 rfl) ?_
          refine lv_iconst (v := (-1)) hx hb dX8_place_33 (by decide) ?_
          have hi_4 : vp_in a_16 81 := by exact kt_in (by omega) (by omega)
          refine va_iast hx hb hK hP hD hS 2 0 rfl rfl hi_4 dX8_place_34 (fun H locs hP hD hS => ?_)
          have hfh : kt_r (upd fh a_16.toNatClampNeg (-1)) 81 (-1) 39 := hfh.upd (by decide) (by decide)
          have hP : va_P D vwCl [(nw, .inr (8, [.ref sf, .ref sh, .int tu])), (sf, .inl (cI, 40, .inl ff)), (sh, .inl (cI, 81, .inl (upd fh a_16.toNatClampNeg (-1))))] H := hP
          have hD : va_D A [(nw, .inr (8, [.ref sf, .ref sh, .int tu])), (sf, .inl (cI, 40, .inl ff)), (sh, .inl (cI, 81, .inl (upd fh a_16.toNatClampNeg (-1))))] := hD
          exact j_35 (upd fh a_16.toNatClampNeg (-1)) (by show kt_r (upd fh a_16.toNatClampNeg (-1)) 81 (-1) 39; exact hfh) H _ hP hD hS ls (lv_sub hl [0, 1, 2, 3] rfl)
    · have d_7 := c_7
      simp only [kt_lt, kt_le, kt_eq, kt_c0, kt_c1, kt_c2, kt_c3, kt_c4, kt_c8, kt_c9, kt_cm1, kt_c81, kt_c40, kt_c7, kt_c5, kt_c6, kt_c512, kt_c10, kt_c10000] at d_7
      exact kt_rv (ff, fh) hx hb hr hlk hS dX8_place_10 hP hD (by show kt_r ff 40 (-1) 80 ∧ kt_r fh 81 (-1) 39; exact ⟨hff, hfh⟩)

theorem iw_X6_isPiece_X6 : ∀ w ∈ wsX60, w ∈ wsX6_isPiece := fun _ h => kt_wp_X6_isPiece__X60 h
set_option maxHeartbeats 4000000 in
set_option maxRecDepth 100000 in
theorem c_X6_isPiece (l : Launch) (D : va_G) (cI cZ cB : ClassId) (sz : Nat) (ru : Nat) (la : Nat) (gr : Nat) (rk : Nat) (rs : Nat) (rt : Nat) (rv : Nat) (tt : Int32) (kg : Int32) (vc : Int32) (p1 : Int32) : kt_Mi l yX6_isPiece wsX6_isPiece { frames := 0, cells := 0, slots := 0, locals := 0 } D (kt_ty cI cZ cB) [.ref ru, .int p1] sz [(ru, .inr (6, [.ref la, .ref gr, .ref rk, .ref rs, .ref rt, .int tt, .int kg, .ref rv, .int vc]))] (fun (r : Int32) (u : Unit) => kt_B r (0 ≤ p1.toInt ∧ p1.toInt < tt.toInt)) (fun (u : Unit) => [(ru, .inr (6, [.ref la, .ref gr, .ref rk, .ref rs, .ref rt, .int tt, .int kg, .ref rv, .int vc]))]) 0 0 := by
  refine kt_Mi.of (cc := cX6_isPiece) (maxL := 2) (ret := some .boolean) (by decide) rfl (Nat.le_of_ble_eq_true rfl) ?_
  intro p e s m below meth c A ls H hAt hP hD hS hl
  obtain ⟨hx, hb, hr, hml, hown, hts, hN, hK, hlk, hnm, hA⟩ := hAt
  have hl : lv_has ls 2 [(0, .ref ru), (1, .int p1)] := hl
  have hown : s.vm.findClass RX6 = some m.cls := hown
  refine lv_iload_n hx hb dX6_isPiece_0 rfl (lv_at hl 1 rfl) ?_
  refine lv_if_lt (tgt := 16) hx hb dX6_isPiece_1 (by decide) (fun c_1 => ?_) (fun c_1 => ?_)
  · have d_1 := c_1
    simp only [kt_lt, kt_le, kt_eq, kt_c0, kt_c1, kt_c2, kt_c3, kt_c4, kt_c8, kt_c9, kt_cm1, kt_c81, kt_c40, kt_c7, kt_c5, kt_c6, kt_c512, kt_c10, kt_c10000] at d_1
    refine lv_iconst (v := 0) hx hb dX6_isPiece_16 (by decide) ?_
    exact kt_rz () hx hb hr hlk hS dX6_isPiece_17 hP hD (by show kt_B (0 : Int32) (0 ≤ p1.toInt ∧ p1.toInt < tt.toInt); first | exact Or.inl ⟨rfl, by omega⟩ | exact Or.inr ⟨rfl, by omega⟩) rfl
  · have d_1 := c_1
    simp only [kt_lt, kt_le, kt_eq, kt_c0, kt_c1, kt_c2, kt_c3, kt_c4, kt_c8, kt_c9, kt_cm1, kt_c81, kt_c40, kt_c7, kt_c5, kt_c6, kt_c512, kt_c10, kt_c10000] at d_1
    refine lv_iload_n hx hb dX6_isPiece_4 rfl (lv_at hl 1 rfl) ?_
    refine lv_aload_n hx hb dX6_isPiece_5 rfl (lv_at hl 0 rfl) ?_
    refine va_get (D := D) (ci := 6) (C := RX6) (T := TX6) (N := 9) hx hb hts iw_X6_isPiece_X6 hown hK hP 0 rfl rfl 5 (by decide) (hts (.fieldLink RX6 40 "KingTable$Rules" "total" "I") (List.mem_cons_of_mem _ (List.mem_append_left _ (List.Mem.head _)))) (fun _ h9 => h9) rfl dX6_isPiece_6 ?_
    refine lv_icmp_ge (tgt := 16) hx hb dX6_isPiece_9 (by decide) (fun c_9 => ?_) (fun c_9 => ?_)
    · have d_9 := c_9
      simp only [kt_lt, kt_le, kt_eq, kt_c0, kt_c1, kt_c2, kt_c3, kt_c4, kt_c8, kt_c9, kt_cm1, kt_c81, kt_c40, kt_c7, kt_c5, kt_c6, kt_c512, kt_c10, kt_c10000] at d_9
      refine lv_iconst (v := 0) hx hb dX6_isPiece_16 (by decide) ?_
      exact kt_rz () hx hb hr hlk hS dX6_isPiece_17 hP hD (by show kt_B (0 : Int32) (0 ≤ p1.toInt ∧ p1.toInt < tt.toInt); first | exact Or.inl ⟨rfl, by omega⟩ | exact Or.inr ⟨rfl, by omega⟩) rfl
    · have d_9 := c_9
      simp only [kt_lt, kt_le, kt_eq, kt_c0, kt_c1, kt_c2, kt_c3, kt_c4, kt_c8, kt_c9, kt_cm1, kt_c81, kt_c40, kt_c7, kt_c5, kt_c6, kt_c512, kt_c10, kt_c10000] at d_9
      refine lv_iconst (v := 1) hx hb dX6_isPiece_12 (by decide) ?_
      refine lv_goto (tgt := 17) hx hb dX6_isPiece_13 (by decide) ?_
      exact kt_rz () hx hb hr hlk hS dX6_isPiece_17 hP hD (by show kt_B (1 : Int32) (0 ≤ p1.toInt ∧ p1.toInt < tt.toInt); first | exact Or.inl ⟨rfl, by omega⟩ | exact Or.inr ⟨rfl, by omega⟩) rfl

theorem iw_X6_bears_X6 : ∀ w ∈ wsX60, w ∈ wsX6_bears := fun _ h => kt_wp_X6_bears__X60 h
theorem iw_X6_bears_X0 : ∀ w ∈ wsX00, w ∈ wsX6_bears := fun _ h => kt_wp_X6_bears__X00 h
set_option maxHeartbeats 4000000 in
set_option maxRecDepth 100000 in
theorem c_X6_bears (l : Launch) (D : va_G) (cI cZ cB : ClassId) (sz : Nat) (ru : Nat) (la : Nat) (gr : Nat) (rk : Nat) (rs : Nat) (rt : Nat) (rv : Nat) (tt : Int32) (kg : Int32) (vc : Int32) (gt : Nat) (gg : Nat) (gn : Nat) (gs : Int32) (gm : Int32) (tg : Nat → Int32) (p1 : Int32) (p2 : Int32) (hgs : 0 ≤ gs.toInt ∧ gs.toInt ≤ 81) (hgt : kt_r tg 81 0 2) : kt_Mi l yX6_bears wsX6_bears { frames := 0, cells := 0, slots := 0, locals := 0 } D (kt_ty cI cZ cB) [.ref ru, .int p1, .int p2] sz [(ru, .inr (6, [.ref la, .ref gr, .ref rk, .ref rs, .ref rt, .int tt, .int kg, .ref rv, .int vc])), (gr, .inr (0, [.ref gt, .ref gg, .ref gn, .int gs, .int gm])), (gt, .inl (cI, 81, .inl tg))] (fun (r : Int32) (u : Unit) => 0 ≤ r.toInt ∧ r.toInt ≤ 1) (fun (u : Unit) => [(ru, .inr (6, [.ref la, .ref gr, .ref rk, .ref rs, .ref rt, .int tt, .int kg, .ref rv, .int vc])), (gr, .inr (0, [.ref gt, .ref gg, .ref gn, .int gs, .int gm])), (gt, .inl (cI, 81, .inl tg))]) 0 0 := by
  refine kt_Mi.of (cc := cX6_bears) (maxL := 3) (ret := some .boolean) (by decide) rfl (Nat.le_of_ble_eq_true rfl) ?_
  intro p e s m below meth c A ls H hAt hP hD hS hl
  obtain ⟨hx, hb, hr, hml, hown, hts, hN, hK, hlk, hnm, hA⟩ := hAt
  have hl : lv_has ls 3 [(0, .ref ru), (1, .int p1), (2, .int p2)] := hl
  have hown : s.vm.findClass RX6 = some m.cls := hown
  refine lv_iload_n hx hb dX6_bears_0 rfl (lv_at hl 2 rfl) ?_
  refine lv_aload_n hx hb dX6_bears_1 rfl (lv_at hl 0 rfl) ?_
  refine va_get (D := D) (ci := 6) (C := RX6) (T := TX6) (N := 9) hx hb hts iw_X6_bears_X6 hown hK hP 0 rfl rfl 6 (by decide) (hts (.fieldLink RX6 29 "KingTable$Rules" "king" "I") (List.mem_cons_of_mem _ (List.mem_append_left _ (List.mem_append_left _ (List.Mem.head _))))) (fun _ h9 => h9) rfl dX6_bears_2 ?_
  refine lv_icmp_eq (tgt := 35) hx hb dX6_bears_5 (by decide) (fun c_5 => ?_) (fun c_5 => ?_)
  · have d_5 := c_5
    simp only [kt_lt, kt_le, kt_eq, kt_c0, kt_c1, kt_c2, kt_c3, kt_c4, kt_c8, kt_c9, kt_cm1, kt_c81, kt_c40, kt_c7, kt_c5, kt_c6, kt_c512, kt_c10, kt_c10000] at d_5
    refine lv_iconst (v := 1) hx hb dX6_bears_35 (by decide) ?_
    refine lv_goto (tgt := 40) hx hb dX6_bears_36 (by decide) ?_
    exact kt_rz () hx hb hr hlk hS dX6_bears_40 hP hD (by show 0 ≤ (1 : Int32).toInt ∧ (1 : Int32).toInt ≤ 1; decide) rfl
  · have d_5 := c_5
    simp only [kt_lt, kt_le, kt_eq, kt_c0, kt_c1, kt_c2, kt_c3, kt_c4, kt_c8, kt_c9, kt_cm1, kt_c81, kt_c40, kt_c7, kt_c5, kt_c6, kt_c512, kt_c10, kt_c10000] at d_5
    refine lv_iload_n hx hb dX6_bears_8 rfl (lv_at hl 1 rfl) ?_
    refine lv_if_lt (tgt := 39) hx hb dX6_bears_9 (by decide) (fun c_9 => ?_) (fun c_9 => ?_)
    · have d_9 := c_9
      simp only [kt_lt, kt_le, kt_eq, kt_c0, kt_c1, kt_c2, kt_c3, kt_c4, kt_c8, kt_c9, kt_cm1, kt_c81, kt_c40, kt_c7, kt_c5, kt_c6, kt_c512, kt_c10, kt_c10000] at d_9
      refine lv_iconst (v := 0) hx hb dX6_bears_39 (by decide) ?_
      exact kt_rz () hx hb hr hlk hS dX6_bears_40 hP hD (by show 0 ≤ (0 : Int32).toInt ∧ (0 : Int32).toInt ≤ 1; decide) rfl
    · have d_9 := c_9
      simp only [kt_lt, kt_le, kt_eq, kt_c0, kt_c1, kt_c2, kt_c3, kt_c4, kt_c8, kt_c9, kt_cm1, kt_c81, kt_c40, kt_c7, kt_c5, kt_c6, kt_c512, kt_c10, kt_c10000] at d_9
      refine lv_iload_n hx hb dX6_bears_12 rfl (lv_at hl 1 rfl) ?_
      refine lv_aload_n hx hb dX6_bears_13 rfl (lv_at hl 0 rfl) ?_
      refine va_get (D := D) (ci := 6) (C := RX6) (T := TX6) (N := 9) hx hb hts iw_X6_bears_X6 hown hK hP 0 rfl rfl 1 (by decide) (hts (.fieldLink RX6 12 "KingTable$Rules" "ground" "LKingTable$Ground;") (List.mem_cons_of_mem _ (List.mem_append_left _ (List.mem_append_left _ (List.mem_cons_of_mem _ (List.Mem.head _)))))) (fun _ h9 => h9) rfl dX6_bears_14 ?_
      refine va_getN (D := D) (ci := 0) (C := RX0) (T := TX0) (N := 5) hx hb hts iw_X6_bears_X0 hown hK hP 1 rfl rfl 3 (by decide) (va_Nw.use (w := .fieldLinkNest RX6 49 "KingTable$Ground" "size" "I" "KingTable") rfl (hN _ (by decide +kernel))) (fun _ h9 => h9) rfl dX6_bears_17 ?_
      refine lv_icmp_ge (tgt := 39) hx hb dX6_bears_20 (by decide) (fun c_20 => ?_) (fun c_20 => ?_)
      · have d_20 := c_20
        simp only [kt_lt, kt_le, kt_eq, kt_c0, kt_c1, kt_c2, kt_c3, kt_c4, kt_c8, kt_c9, kt_cm1, kt_c81, kt_c40, kt_c7, kt_c5, kt_c6, kt_c512, kt_c10, kt_c10000] at d_20
        refine lv_iconst (v := 0) hx hb dX6_bears_39 (by decide) ?_
        exact kt_rz () hx hb hr hlk hS dX6_bears_40 hP hD (by show 0 ≤ (0 : Int32).toInt ∧ (0 : Int32).toInt ≤ 1; decide) rfl
      · have d_20 := c_20
        simp only [kt_lt, kt_le, kt_eq, kt_c0, kt_c1, kt_c2, kt_c3, kt_c4, kt_c8, kt_c9, kt_cm1, kt_c81, kt_c40, kt_c7, kt_c5, kt_c6, kt_c512, kt_c10, kt_c10000] at d_20
        refine lv_aload_n hx hb dX6_bears_23 rfl (lv_at hl 0 rfl) ?_
        refine va_get (D := D) (ci := 6) (C := RX6) (T := TX6) (N := 9) hx hb hts iw_X6_bears_X6 hown hK hP 0 rfl rfl 1 (by decide) (hts (.fieldLink RX6 12 "KingTable$Rules" "ground" "LKingTable$Ground;") (List.mem_cons_of_mem _ (List.mem_append_left _ (List.mem_append_left _ (List.mem_cons_of_mem _ (List.Mem.head _)))))) (fun _ h9 => h9) rfl dX6_bears_24 ?_
        refine va_getN (D := D) (ci := 0) (C := RX0) (T := TX0) (N := 5) hx hb hts iw_X6_bears_X0 hown hK hP 1 rfl rfl 0 (by decide) (va_Nw.use (w := .fieldLinkNest RX6 52 "KingTable$Ground" "types" "[I" "KingTable") rfl (hN _ (by decide +kernel))) (fun _ h9 => h9) rfl dX6_bears_27 ?_
        refine lv_iload_n hx hb dX6_bears_30 rfl (lv_at hl 1 rfl) ?_
        have hi_1 : vp_in p1 81 := by exact kt_in (by omega) (by omega)
        refine va_iald hx hb hK hP 2 0 rfl rfl hi_1 dX6_bears_31 ?_
        refine lv_topi (fun a_31 ea_31 => ?_)
        have ra_31 := hgt.get hi_1
        rw [← ea_31] at ra_31
        refine lv_if_ne (tgt := 39) hx hb dX6_bears_32 (by decide) (fun c_32 => ?_) (fun c_32 => ?_)
        · have d_32 := c_32
          simp only [kt_lt, kt_le, kt_eq, kt_c0, kt_c1, kt_c2, kt_c3, kt_c4, kt_c8, kt_c9, kt_cm1, kt_c81, kt_c40, kt_c7, kt_c5, kt_c6, kt_c512, kt_c10, kt_c10000] at d_32
          refine lv_iconst (v := 0) hx hb dX6_bears_39 (by decide) ?_
          exact kt_rz () hx hb hr hlk hS dX6_bears_40 hP hD (by show 0 ≤ (0 : Int32).toInt ∧ (0 : Int32).toInt ≤ 1; decide) rfl
        · have d_32 := c_32
          simp only [kt_lt, kt_le, kt_eq, kt_c0, kt_c1, kt_c2, kt_c3, kt_c4, kt_c8, kt_c9, kt_cm1, kt_c81, kt_c40, kt_c7, kt_c5, kt_c6, kt_c512, kt_c10, kt_c10000] at d_32
          refine lv_iconst (v := 1) hx hb dX6_bears_35 (by decide) ?_
          refine lv_goto (tgt := 40) hx hb dX6_bears_36 (by decide) ?_
          exact kt_rz () hx hb hr hlk hS dX6_bears_40 hP hD (by show 0 ≤ (1 : Int32).toInt ∧ (1 : Int32).toInt ≤ 1; decide) rfl

theorem iw_X6_isGoal_X6 : ∀ w ∈ wsX60, w ∈ wsX6_isGoal := fun _ h => kt_wp_X6_isGoal__X60 h
theorem iw_X6_isGoal_X0 : ∀ w ∈ wsX00, w ∈ wsX6_isGoal := fun _ h => kt_wp_X6_isGoal__X00 h
set_option maxHeartbeats 4000000 in
set_option maxRecDepth 100000 in
theorem c_X6_isGoal (l : Launch) (D : va_G) (cI cZ cB : ClassId) (sz : Nat) (ru : Nat) (la : Nat) (gr : Nat) (rk : Nat) (rs : Nat) (rt : Nat) (rv : Nat) (tt : Int32) (kg : Int32) (vc : Int32) (gt : Nat) (gg : Nat) (gn : Nat) (gs : Int32) (gm : Int32) (gl : Nat → Int32) (p1 : Int32) (hgs : 0 ≤ gs.toInt ∧ gs.toInt ≤ 81) (hgg : kt_r gl 81 0 1) : kt_Mi l yX6_isGoal wsX6_isGoal { frames := 0, cells := 0, slots := 0, locals := 0 } D (kt_ty cI cZ cB) [.ref ru, .int p1] sz [(ru, .inr (6, [.ref la, .ref gr, .ref rk, .ref rs, .ref rt, .int tt, .int kg, .ref rv, .int vc])), (gr, .inr (0, [.ref gt, .ref gg, .ref gn, .int gs, .int gm])), (gg, .inl (cZ, 81, .inl gl))] (fun (r : Int32) (u : Unit) => 0 ≤ r.toInt ∧ r.toInt ≤ 1) (fun (u : Unit) => [(ru, .inr (6, [.ref la, .ref gr, .ref rk, .ref rs, .ref rt, .int tt, .int kg, .ref rv, .int vc])), (gr, .inr (0, [.ref gt, .ref gg, .ref gn, .int gs, .int gm])), (gg, .inl (cZ, 81, .inl gl))]) 0 0 := by
  refine kt_Mi.of (cc := cX6_isGoal) (maxL := 2) (ret := some .boolean) (by decide) rfl (Nat.le_of_ble_eq_true rfl) ?_
  intro p e s m below meth c A ls H hAt hP hD hS hl
  obtain ⟨hx, hb, hr, hml, hown, hts, hN, hK, hlk, hnm, hA⟩ := hAt
  have hl : lv_has ls 2 [(0, .ref ru), (1, .int p1)] := hl
  have hown : s.vm.findClass RX6 = some m.cls := hown
  refine lv_iload_n hx hb dX6_isGoal_0 rfl (lv_at hl 1 rfl) ?_
  refine lv_if_lt (tgt := 31) hx hb dX6_isGoal_1 (by decide) (fun c_1 => ?_) (fun c_1 => ?_)
  · have d_1 := c_1
    simp only [kt_lt, kt_le, kt_eq, kt_c0, kt_c1, kt_c2, kt_c3, kt_c4, kt_c8, kt_c9, kt_cm1, kt_c81, kt_c40, kt_c7, kt_c5, kt_c6, kt_c512, kt_c10, kt_c10000] at d_1
    refine lv_iconst (v := 0) hx hb dX6_isGoal_31 (by decide) ?_
    exact kt_rz () hx hb hr hlk hS dX6_isGoal_32 hP hD (by show 0 ≤ (0 : Int32).toInt ∧ (0 : Int32).toInt ≤ 1; decide) rfl
  · have d_1 := c_1
    simp only [kt_lt, kt_le, kt_eq, kt_c0, kt_c1, kt_c2, kt_c3, kt_c4, kt_c8, kt_c9, kt_cm1, kt_c81, kt_c40, kt_c7, kt_c5, kt_c6, kt_c512, kt_c10, kt_c10000] at d_1
    refine lv_iload_n hx hb dX6_isGoal_4 rfl (lv_at hl 1 rfl) ?_
    refine lv_aload_n hx hb dX6_isGoal_5 rfl (lv_at hl 0 rfl) ?_
    refine va_get (D := D) (ci := 6) (C := RX6) (T := TX6) (N := 9) hx hb hts iw_X6_isGoal_X6 hown hK hP 0 rfl rfl 1 (by decide) (hts (.fieldLink RX6 12 "KingTable$Rules" "ground" "LKingTable$Ground;") (List.mem_cons_of_mem _ (List.mem_append_left _ (List.mem_append_left _ (List.Mem.head _))))) (fun _ h9 => h9) rfl dX6_isGoal_6 ?_
    refine va_getN (D := D) (ci := 0) (C := RX0) (T := TX0) (N := 5) hx hb hts iw_X6_isGoal_X0 hown hK hP 1 rfl rfl 3 (by decide) (va_Nw.use (w := .fieldLinkNest RX6 49 "KingTable$Ground" "size" "I" "KingTable") rfl (hN _ (by decide +kernel))) (fun _ h9 => h9) rfl dX6_isGoal_9 ?_
    refine lv_icmp_ge (tgt := 31) hx hb dX6_isGoal_12 (by decide) (fun c_12 => ?_) (fun c_12 => ?_)
    · have d_12 := c_12
      simp only [kt_lt, kt_le, kt_eq, kt_c0, kt_c1, kt_c2, kt_c3, kt_c4, kt_c8, kt_c9, kt_cm1, kt_c81, kt_c40, kt_c7, kt_c5, kt_c6, kt_c512, kt_c10, kt_c10000] at d_12
      refine lv_iconst (v := 0) hx hb dX6_isGoal_31 (by decide) ?_
      exact kt_rz () hx hb hr hlk hS dX6_isGoal_32 hP hD (by show 0 ≤ (0 : Int32).toInt ∧ (0 : Int32).toInt ≤ 1; decide) rfl
    · have d_12 := c_12
      simp only [kt_lt, kt_le, kt_eq, kt_c0, kt_c1, kt_c2, kt_c3, kt_c4, kt_c8, kt_c9, kt_cm1, kt_c81, kt_c40, kt_c7, kt_c5, kt_c6, kt_c512, kt_c10, kt_c10000] at d_12
      refine lv_aload_n hx hb dX6_isGoal_15 rfl (lv_at hl 0 rfl) ?_
      refine va_get (D := D) (ci := 6) (C := RX6) (T := TX6) (N := 9) hx hb hts iw_X6_isGoal_X6 hown hK hP 0 rfl rfl 1 (by decide) (hts (.fieldLink RX6 12 "KingTable$Rules" "ground" "LKingTable$Ground;") (List.mem_cons_of_mem _ (List.mem_append_left _ (List.mem_append_left _ (List.Mem.head _))))) (fun _ h9 => h9) rfl dX6_isGoal_16 ?_
      refine va_getN (D := D) (ci := 0) (C := RX0) (T := TX0) (N := 5) hx hb hts iw_X6_isGoal_X0 hown hK hP 1 rfl rfl 1 (by decide) (va_Nw.use (w := .fieldLinkNest RX6 55 "KingTable$Ground" "goals" "[Z" "KingTable") rfl (hN _ (by decide +kernel))) (fun _ h9 => h9) rfl dX6_isGoal_19 ?_
      refine lv_iload_n hx hb dX6_isGoal_22 rfl (lv_at hl 1 rfl) ?_
      have hi_1 : vp_in p1 81 := by exact kt_in (by omega) (by omega)
      refine va_zald hx hb hK hP 2 1 rfl rfl hi_1 dX6_isGoal_23 ?_
      refine lv_topi (fun a_23 ea_23 => ?_)
      have ra_23 := hgg.get hi_1
      rw [← ea_23] at ra_23
      refine lv_if_eq (tgt := 31) hx hb dX6_isGoal_24 (by decide) (fun c_24 => ?_) (fun c_24 => ?_)
      · have d_24 := c_24
        simp only [kt_lt, kt_le, kt_eq, kt_c0, kt_c1, kt_c2, kt_c3, kt_c4, kt_c8, kt_c9, kt_cm1, kt_c81, kt_c40, kt_c7, kt_c5, kt_c6, kt_c512, kt_c10, kt_c10000] at d_24
        refine lv_iconst (v := 0) hx hb dX6_isGoal_31 (by decide) ?_
        exact kt_rz () hx hb hr hlk hS dX6_isGoal_32 hP hD (by show 0 ≤ (0 : Int32).toInt ∧ (0 : Int32).toInt ≤ 1; decide) rfl
      · have d_24 := c_24
        simp only [kt_lt, kt_le, kt_eq, kt_c0, kt_c1, kt_c2, kt_c3, kt_c4, kt_c8, kt_c9, kt_cm1, kt_c81, kt_c40, kt_c7, kt_c5, kt_c6, kt_c512, kt_c10, kt_c10000] at d_24
        refine lv_iconst (v := 1) hx hb dX6_isGoal_27 (by decide) ?_
        refine lv_goto (tgt := 32) hx hb dX6_isGoal_28 (by decide) ?_
        exact kt_rz () hx hb hr hlk hS dX6_isGoal_32 hP hD (by show 0 ≤ (1 : Int32).toInt ∧ (1 : Int32).toInt ≤ 1; decide) rfl

theorem iw_X6_isBeyondReach_X6 : ∀ w ∈ wsX60, w ∈ wsX6_isBeyondReach := fun _ h => kt_wp_X6_isBeyondReach__X60 h
theorem iw_X6_isBeyondReach_X1 : ∀ w ∈ wsX10, w ∈ wsX6_isBeyondReach := fun _ h => kt_wp_X6_isBeyondReach__X10 h
theorem iw_X6_room_X6 : ∀ w ∈ wsX60, w ∈ wsX6_room := fun _ h => kt_wp_X6_room__X60 h
theorem iw_X6_room_X1 : ∀ w ∈ wsX10, w ∈ wsX6_room := fun _ h => kt_wp_X6_room__X10 h
set_option maxHeartbeats 4000000 in
set_option maxRecDepth 100000 in
theorem c_X6_room (l : Launch) (D : va_G) (cI cZ cB : ClassId) (sz : Nat) (ru : Nat) (la : Nat) (gr : Nat) (rk : Nat) (rs : Nat) (rt : Nat) (rv : Nat) (tt : Int32) (kg : Int32) (vc : Int32) (lg : Int32) (lh : Int32) (lt : Int32) (lr : Int32) (lc : Int32) (gt : Nat) (gg : Nat) (gn : Nat) (gs : Int32) (gm : Int32) (tg : Nat → Int32) (nb : Nat → Int32) (nw : Nat) (sf : Nat) (sh : Nat) (tu : Int32) (ff : Nat → Int32) (fh : Nat → Int32) (p1 : Int32) (p2 : Int32) (hgs : 0 ≤ gs.toInt ∧ gs.toInt ≤ 81) (hgt : kt_r tg 81 0 2) (hnb : kt_r nb 324 (-1) 80) (hff : kt_r ff 40 (-1) 80) (hfh : kt_r fh 81 (-1) 39) (hlr : 0 ≤ lr.toInt ∧ lr.toInt ≤ 8) : kt_Mi l yX6_room wsX6_room { frames := 1, cells := 0, slots := 0, locals := 23 } D (kt_ty cI cZ cB) [.ref ru, .ref nw, .int p1, .int p2] sz [(ru, .inr (6, [.ref la, .ref gr, .ref rk, .ref rs, .ref rt, .int tt, .int kg, .ref rv, .int vc])), (la, .inr (1, [.int lg, .int lh, .int lt, .int lr, .int lc])), (gr, .inr (0, [.ref gt, .ref gg, .ref gn, .int gs, .int gm])), (gt, .inl (cI, 81, .inl tg)), (gn, .inl (cI, 324, .inl nb)), (nw, .inr (8, [.ref sf, .ref sh, .int tu])), (sf, .inl (cI, 40, .inl ff)), (sh, .inl (cI, 81, .inl fh))] (fun (r : Int32) (u : Unit) => 0 ≤ r.toInt ∧ r.toInt ≤ 9) (fun (u : Unit) => [(ru, .inr (6, [.ref la, .ref gr, .ref rk, .ref rs, .ref rt, .int tt, .int kg, .ref rv, .int vc])), (la, .inr (1, [.int lg, .int lh, .int lt, .int lr, .int lc])), (gr, .inr (0, [.ref gt, .ref gg, .ref gn, .int gs, .int gm])), (gt, .inl (cI, 81, .inl tg)), (gn, .inl (cI, 324, .inl nb)), (nw, .inr (8, [.ref sf, .ref sh, .int tu])), (sf, .inl (cI, 40, .inl ff)), (sh, .inl (cI, 81, .inl fh))]) 0 0 := by
  refine kt_Mi.of (cc := cX6_room) (maxL := 7) (ret := some .int) (by decide) rfl (Nat.le_of_ble_eq_true rfl) ?_
  intro p e s m below meth c A ls H hAt hP hD hS hl
  obtain ⟨hx, hb, hr, hml, hown, hts, hN, hK, hlk, hnm, hA⟩ := hAt
  have hl : lv_has ls 7 [(0, .ref ru), (1, .ref nw), (2, .int p1), (3, .int p2)] := hl
  have hown : s.vm.findClass RX6 = some m.cls := hown
  refine lv_iload_n hx hb dX6_room_0 rfl (lv_at hl 2 rfl) ?_
  refine lv_aload_n hx hb dX6_room_1 rfl (lv_at hl 0 rfl) ?_
  refine va_get (D := D) (ci := 6) (C := RX6) (T := TX6) (N := 9) hx hb hts iw_X6_room_X6 hown hK hP 0 rfl rfl 6 (by decide) (hts (.fieldLink RX6 29 "KingTable$Rules" "king" "I") (kt_wp_X6_room__X6_room_r1 kt_wm0)) (fun _ h9 => h9) rfl dX6_room_2 ?_
  refine kt_join (σ := Int32) 30 7 (fun u => [(ru, .inr (6, [.ref la, .ref gr, .ref rk, .ref rs, .ref rt, .int tt, .int kg, .ref rv, .int vc])), (la, .inr (1, [.int lg, .int lh, .int lt, .int lr, .int lc])), (gr, .inr (0, [.ref gt, .ref gg, .ref gn, .int gs, .int gm])), (gt, .inl (cI, 81, .inl tg)), (gn, .inl (cI, 324, .inl nb)), (nw, .inr (8, [.ref sf, .ref sh, .int tu])), (sf, .inl (cI, 40, .inl ff)), (sh, .inl (cI, 81, .inl fh))]) (fun u => [(0, .ref ru), (1, .ref nw), (2, .int p1), (3, .int p2)]) (fun u => [.int u]) (fun u => 0 ≤ u.toInt ∧ u.toInt ≤ 9) (D := D) (A := A) (H0 := s.heap) (fun u hI H locs hP hD hS ls hl => ?_) (fun j_30 => ?_)
  · obtain ⟨lim, rfl⟩ : ∃ z, z = u := ⟨_, rfl⟩
    have hP : va_P D vwCl [(ru, .inr (6, [.ref la, .ref gr, .ref rk, .ref rs, .ref rt, .int tt, .int kg, .ref rv, .int vc])), (la, .inr (1, [.int lg, .int lh, .int lt, .int lr, .int lc])), (gr, .inr (0, [.ref gt, .ref gg, .ref gn, .int gs, .int gm])), (gt, .inl (cI, 81, .inl tg)), (gn, .inl (cI, 324, .inl nb)), (nw, .inr (8, [.ref sf, .ref sh, .int tu])), (sf, .inl (cI, 40, .inl ff)), (sh, .inl (cI, 81, .inl fh))] H := hP
    have hD : va_D A [(ru, .inr (6, [.ref la, .ref gr, .ref rk, .ref rs, .ref rt, .int tt, .int kg, .ref rv, .int vc])), (la, .inr (1, [.int lg, .int lh, .int lt, .int lr, .int lc])), (gr, .inr (0, [.ref gt, .ref gg, .ref gn, .int gs, .int gm])), (gt, .inl (cI, 81, .inl tg)), (gn, .inl (cI, 324, .inl nb)), (nw, .inr (8, [.ref sf, .ref sh, .int tu])), (sf, .inl (cI, 40, .inl ff)), (sh, .inl (cI, 81, .inl fh))] := hD
    have hl : lv_has ls 7 [(0, .ref ru), (1, .ref nw), (2, .int p1), (3, .int p2)] := hl
    have hI : 0 ≤ lim.toInt ∧ lim.toInt ≤ 9 := hI
    have hlim := hI
    refine lv_istore (lv' := [(4, .int lim), (0, .ref ru), (1, .ref nw), (2, .int p1), (3, .int p2)]) hx hb dX6_room_30 hl (by decide) rfl (fun ls hl => ?_)
    refine lv_aload_n hx hb dX6_room_32 rfl (lv_at hl 1 rfl) ?_
    refine va_get (D := D) (ci := 6) (C := RX6) (T := TX6) (N := 9) hx hb hts iw_X6_room_X6 hown hK hP 0 rfl rfl 1 (by decide) (hts (.fieldLink RX6 12 "KingTable$Rules" "ground" "LKingTable$Ground;") (kt_wp_X6_room__X6_room_r1 kt_wm2)) (fun _ h9 => h9) rfl dX6_room_33 ?_
    refine lv_aload_n hx hb dX6_room_36 rfl (lv_at hl 2 rfl) ?_
    refine lv_iload_n hx hb dX6_room_37 rfl (lv_at hl 3 rfl) ?_
    refine kt_pi (wc := [(nw, .inr (8, [.ref sf, .ref sh, .int tu])), (sf, .inl (cI, 40, .inl ff))]) [5, 6] hP hD hS hA rfl (by decide) (fun hPc hDc => va_runV (As := [.int p1]) (rest := [.ref gr]) ⟨hx, hb, hml, hown, hts⟩ (c_X8_fieldOf l D cI cZ cB H.size nw sf sh tu ff p1 (by first | assumption | omega | rfl | decide)) (cwV 1 hts gX6_room_X8_fieldOf rfl rfl rfl (by decide +kernel) ⟨Nat.le_of_ble_eq_true rfl, Nat.le_of_ble_eq_true rfl⟩) (kt_preV hN hK hPc hDc 0 (ci := 8) (q := (RX8, TX8, 3)) rfl rfl) rfl rfl hl.1 rfl (lv_room (Nat.le_of_ble_eq_true rfl)) dX6_room_38 ⟨Nat.le_of_ble_eq_true rfl, Nat.le_of_ble_eq_true rfl⟩) (fun r_38 _ H locs hw_38 hP hS => ?_)
    refine lv_iload_n hx hb dX6_room_41 rfl (lv_at hl 4 rfl) ?_
    refine kt_pi (wc := [(gr, .inr (0, [.ref gt, .ref gg, .ref gn, .int gs, .int gm])), (gn, .inl (cI, 324, .inl nb))]) [2, 4] hP hD hS hA rfl (by decide) (fun hPc hDc => va_runV (As := [.int r_38, .int p2]) (rest := []) ⟨hx, hb, hml, hown, hts⟩ (c_X0_beside l D cI cZ cB H.size gr gt gg gn gs gm nb r_38 p2 (by first | assumption | omega | rfl | decide) (by first | assumption | omega | rfl | decide)) (cwV 2 hts gX6_room_X0_beside rfl rfl rfl (by decide +kernel) ⟨Nat.le_of_ble_eq_true rfl, Nat.le_of_ble_eq_true rfl⟩) (kt_preV hN hK hPc hDc 0 (ci := 0) (q := (RX0, TX0, 5)) rfl rfl) rfl rfl hl.1 rfl (lv_room (Nat.le_of_ble_eq_true rfl)) dX6_room_42 ⟨Nat.le_of_ble_eq_true rfl, Nat.le_of_ble_eq_true rfl⟩) (fun r_42 _ H locs hw_42 hP hS => ?_)
    refine lv_istore (lv' := [(5, .int r_42), (4, .int lim), (0, .ref ru), (1, .ref nw), (2, .int p1), (3, .int p2)]) hx hb dX6_room_45 hl (by decide) rfl (fun ls hl => ?_)
    refine lv_iconst (v := 0) hx hb dX6_room_47 (by decide) ?_
    refine lv_istore (lv' := [(6, .int 0), (5, .int r_42), (4, .int lim), (0, .ref ru), (1, .ref nw), (2, .int p1), (3, .int p2)]) hx hb dX6_room_48 hl (by decide) rfl (fun ls hl => ?_)
    refine kt_loop (σ := Nat × Int32) 50 7 (fun u => [(ru, .inr (6, [.ref la, .ref gr, .ref rk, .ref rs, .ref rt, .int tt, .int kg, .ref rv, .int vc])), (la, .inr (1, [.int lg, .int lh, .int lt, .int lr, .int lc])), (gr, .inr (0, [.ref gt, .ref gg, .ref gn, .int gs, .int gm])), (gt, .inl (cI, 81, .inl tg)), (gn, .inl (cI, 324, .inl nb)), (nw, .inr (8, [.ref sf, .ref sh, .int tu])), (sf, .inl (cI, 40, .inl ff)), (sh, .inl (cI, 81, .inl fh))]) (fun u => [(6, .int (nI u.1)), (5, .int u.2), (4, .int lim), (0, .ref ru), (1, .ref nw), (2, .int p1), (3, .int p2)]) (fun n u => u.1 ≤ 9 ∧ 9 < u.1 + n ∧ -1 ≤ u.2.toInt ∧ u.2.toInt ≤ 80) (fun u h => by omega) (fun n_50 ih_50 u hI H locs hP hD hS ls hl => ?_) (10) (0, r_42) (by show 0 ≤ 9 ∧ 9 < 0 + 10 ∧ -1 ≤ r_42.toInt ∧ r_42.toInt ≤ 80; exact ⟨by decide, by decide, by omega, by omega⟩) hP hD hS (lv_sub hl [0, 1, 2, 3, 4, 5, 6] rfl)
    obtain ⟨k, f⟩ := u
    have hP : va_P D vwCl [(ru, .inr (6, [.ref la, .ref gr, .ref rk, .ref rs, .ref rt, .int tt, .int kg, .ref rv, .int vc])), (la, .inr (1, [.int lg, .int lh, .int lt, .int lr, .int lc])), (gr, .inr (0, [.ref gt, .ref gg, .ref gn, .int gs, .int gm])), (gt, .inl (cI, 81, .inl tg)), (gn, .inl (cI, 324, .inl nb)), (nw, .inr (8, [.ref sf, .ref sh, .int tu])), (sf, .inl (cI, 40, .inl ff)), (sh, .inl (cI, 81, .inl fh))] H := hP
    have hD : va_D A [(ru, .inr (6, [.ref la, .ref gr, .ref rk, .ref rs, .ref rt, .int tt, .int kg, .ref rv, .int vc])), (la, .inr (1, [.int lg, .int lh, .int lt, .int lr, .int lc])), (gr, .inr (0, [.ref gt, .ref gg, .ref gn, .int gs, .int gm])), (gt, .inl (cI, 81, .inl tg)), (gn, .inl (cI, 324, .inl nb)), (nw, .inr (8, [.ref sf, .ref sh, .int tu])), (sf, .inl (cI, 40, .inl ff)), (sh, .inl (cI, 81, .inl fh))] := hD
    have hl : lv_has ls 7 [(6, .int (nI k)), (5, .int f), (4, .int lim), (0, .ref ru), (1, .ref nw), (2, .int p1), (3, .int p2)] := hl
    have hI : k ≤ 9 ∧ 9 < k + (n_50 + 1) ∧ -1 ≤ f.toInt ∧ f.toInt ≤ 80 := hI
    have hk0 := kt_nI (n := k) (by omega)
    refine lv_iload hx hb dX6_room_50 (lv_at hl 0 rfl) ?_
    refine lv_iload hx hb dX6_room_52 (lv_at hl 2 rfl) ?_
    refine lv_icmp_ge (tgt := 101) hx hb dX6_room_54 (by decide) (fun c_54 => ?_) (fun c_54 => ?_)
    · have d_54 := c_54
      simp only [kt_lt, kt_le, kt_eq, kt_c0, kt_c1, kt_c2, kt_c3, kt_c4, kt_c8, kt_c9, kt_cm1, kt_c81, kt_c40, kt_c7, kt_c5, kt_c6, kt_c512, kt_c10, kt_c10000] at d_54
      refine lv_iload hx hb dX6_room_101 (lv_at hl 0 rfl) ?_
      exact kt_ri () hx hb hr hlk hS dX6_room_103 hP hD (by show 0 ≤ (nI k).toInt ∧ (nI k).toInt ≤ 9; omega)
    · have d_54 := c_54
      simp only [kt_lt, kt_le, kt_eq, kt_c0, kt_c1, kt_c2, kt_c3, kt_c4, kt_c8, kt_c9, kt_cm1, kt_c81, kt_c40, kt_c7, kt_c5, kt_c6, kt_c512, kt_c10, kt_c10000] at d_54
      refine lv_iload hx hb dX6_room_57 (lv_at hl 1 rfl) ?_
      refine lv_iconst (v := (-1)) hx hb dX6_room_59 (by decide) ?_
      refine lv_icmp_eq (tgt := 101) hx hb dX6_room_60 (by decide) (fun c_60 => ?_) (fun c_60 => ?_)
      · have d_60 := c_60
        simp only [kt_lt, kt_le, kt_eq, kt_c0, kt_c1, kt_c2, kt_c3, kt_c4, kt_c8, kt_c9, kt_cm1, kt_c81, kt_c40, kt_c7, kt_c5, kt_c6, kt_c512, kt_c10, kt_c10000] at d_60
        refine lv_iload hx hb dX6_room_101 (lv_at hl 0 rfl) ?_
        exact kt_ri () hx hb hr hlk hS dX6_room_103 hP hD (by show 0 ≤ (nI k).toInt ∧ (nI k).toInt ≤ 9; omega)
      · have d_60 := c_60
        simp only [kt_lt, kt_le, kt_eq, kt_c0, kt_c1, kt_c2, kt_c3, kt_c4, kt_c8, kt_c9, kt_cm1, kt_c81, kt_c40, kt_c7, kt_c5, kt_c6, kt_c512, kt_c10, kt_c10000] at d_60
        refine lv_aload_n hx hb dX6_room_63 rfl (lv_at hl 4 rfl) ?_
        refine lv_iload hx hb dX6_room_64 (lv_at hl 1 rfl) ?_
        refine kt_pi (wc := [(nw, .inr (8, [.ref sf, .ref sh, .int tu])), (sh, .inl (cI, 81, .inl fh))]) [5, 7] hP hD hS hA rfl (by decide) (fun hPc hDc => va_runV (As := [.int f]) (rest := []) ⟨hx, hb, hml, hown, hts⟩ (c_X8_holderOf l D cI cZ cB H.size nw sf sh tu fh f (by first | assumption | omega | rfl | decide)) (cwV 1 hts gX6_room_X8_holderOf rfl rfl rfl (by decide +kernel) ⟨Nat.le_of_ble_eq_true rfl, Nat.le_of_ble_eq_true rfl⟩) (kt_preV hN hK hPc hDc 0 (ci := 8) (q := (RX8, TX8, 3)) rfl rfl) rfl rfl hl.1 rfl (lv_room (Nat.le_of_ble_eq_true rfl)) dX6_room_66 ⟨Nat.le_of_ble_eq_true rfl, Nat.le_of_ble_eq_true rfl⟩) (fun r_66 _ H locs hw_66 hP hS => ?_)
        refine lv_iconst (v := (-1)) hx hb dX6_room_69 (by decide) ?_
        refine lv_icmp_ne (tgt := 101) hx hb dX6_room_70 (by decide) (fun c_70 => ?_) (fun c_70 => ?_)
        · have d_70 := c_70
          simp only [kt_lt, kt_le, kt_eq, kt_c0, kt_c1, kt_c2, kt_c3, kt_c4, kt_c8, kt_c9, kt_cm1, kt_c81, kt_c40, kt_c7, kt_c5, kt_c6, kt_c512, kt_c10, kt_c10000] at d_70
          refine lv_iload hx hb dX6_room_101 (lv_at hl 0 rfl) ?_
          exact kt_ri () hx hb hr hlk hS dX6_room_103 hP hD (by show 0 ≤ (nI k).toInt ∧ (nI k).toInt ≤ 9; omega)
        · have d_70 := c_70
          simp only [kt_lt, kt_le, kt_eq, kt_c0, kt_c1, kt_c2, kt_c3, kt_c4, kt_c8, kt_c9, kt_cm1, kt_c81, kt_c40, kt_c7, kt_c5, kt_c6, kt_c512, kt_c10, kt_c10000] at d_70
          refine lv_aload_n hx hb dX6_room_73 rfl (lv_at hl 3 rfl) ?_
          refine lv_iload hx hb dX6_room_74 (lv_at hl 1 rfl) ?_
          refine lv_iload_n hx hb dX6_room_76 rfl (lv_at hl 5 rfl) ?_
          refine kt_pi (wc := [(ru, .inr (6, [.ref la, .ref gr, .ref rk, .ref rs, .ref rt, .int tt, .int kg, .ref rv, .int vc])), (gr, .inr (0, [.ref gt, .ref gg, .ref gn, .int gs, .int gm])), (gt, .inl (cI, 81, .inl tg))]) [0, 2, 3] hP hD hS hA rfl (by decide) (fun hPc hDc => va_runV (As := [.int f, .int p1]) (rest := []) ⟨hx, hb, hml, hown, hts⟩ (c_X6_bears l D cI cZ cB H.size ru la gr rk rs rt rv tt kg vc gt gg gn gs gm tg f p1 (by first | assumption | omega | rfl | decide) (by first | assumption | omega | rfl | decide)) (cwV 2 hts gX6_room_X6_bears rfl rfl rfl (by decide +kernel) ⟨Nat.le_of_ble_eq_true rfl, Nat.le_of_ble_eq_true rfl⟩) (kt_preV hN hK hPc hDc 0 (ci := 6) (q := (RX6, TX6, 9)) rfl rfl) rfl rfl hl.1 rfl (lv_room (Nat.le_of_ble_eq_true rfl)) dX6_room_77 ⟨Nat.le_of_ble_eq_true rfl, Nat.le_of_ble_eq_true rfl⟩) (fun r_77 _ H locs hw_77 hP hS => ?_)
          refine lv_if_eq (tgt := 101) hx hb dX6_room_80 (by decide) (fun c_80 => ?_) (fun c_80 => ?_)
          · have d_80 := c_80
            simp only [kt_lt, kt_le, kt_eq, kt_c0, kt_c1, kt_c2, kt_c3, kt_c4, kt_c8, kt_c9, kt_cm1, kt_c81, kt_c40, kt_c7, kt_c5, kt_c6, kt_c512, kt_c10, kt_c10000] at d_80
            refine lv_iload hx hb dX6_room_101 (lv_at hl 0 rfl) ?_
            exact kt_ri () hx hb hr hlk hS dX6_room_103 hP hD (by show 0 ≤ (nI k).toInt ∧ (nI k).toInt ≤ 9; omega)
          · have d_80 := c_80
            simp only [kt_lt, kt_le, kt_eq, kt_c0, kt_c1, kt_c2, kt_c3, kt_c4, kt_c8, kt_c9, kt_cm1, kt_c81, kt_c40, kt_c7, kt_c5, kt_c6, kt_c512, kt_c10, kt_c10000] at d_80
            refine lv_iinc (v := nI (k + 1)) (lv' := [(6, .int (nI (k + 1))), (5, .int f), (4, .int lim), (0, .ref ru), (1, .ref nw), (2, .int p1), (3, .int p2)]) hx hb dX6_room_83 hl (k := 0) rfl (nI_1 _) (by decide) rfl (fun ls hl => ?_)
            refine lv_aload_n hx hb dX6_room_86 rfl (lv_at hl 3 rfl) ?_
            refine va_get (D := D) (ci := 6) (C := RX6) (T := TX6) (N := 9) hx hb hts iw_X6_room_X6 hown hK hP 0 rfl rfl 1 (by decide) (hts (.fieldLink RX6 12 "KingTable$Rules" "ground" "LKingTable$Ground;") (kt_wp_X6_room__X6_room_r1 kt_wm2)) (fun _ h9 => h9) rfl dX6_room_87 ?_
            refine lv_iload hx hb dX6_room_90 (lv_at hl 1 rfl) ?_
            refine lv_iload_n hx hb dX6_room_92 rfl (lv_at hl 6 rfl) ?_
            refine kt_pi (wc := [(gr, .inr (0, [.ref gt, .ref gg, .ref gn, .int gs, .int gm])), (gn, .inl (cI, 324, .inl nb))]) [2, 4] hP hD hS hA rfl (by decide) (fun hPc hDc => va_runV (As := [.int f, .int p2]) (rest := []) ⟨hx, hb, hml, hown, hts⟩ (c_X0_beside l D cI cZ cB H.size gr gt gg gn gs gm nb f p2 (by first | assumption | omega | rfl | decide) (by first | assumption | omega | rfl | decide)) (cwV 2 hts gX6_room_X0_beside rfl rfl rfl (by decide +kernel) ⟨Nat.le_of_ble_eq_true rfl, Nat.le_of_ble_eq_true rfl⟩) (kt_preV hN hK hPc hDc 0 (ci := 0) (q := (RX0, TX0, 5)) rfl rfl) rfl rfl hl.1 rfl (lv_room (Nat.le_of_ble_eq_true rfl)) dX6_room_93 ⟨Nat.le_of_ble_eq_true rfl, Nat.le_of_ble_eq_true rfl⟩) (fun r_93 _ H locs hw_93 hP hS => ?_)
            refine lv_istore (lv' := [(5, .int r_93), (6, .int (nI (k + 1))), (4, .int lim), (0, .ref ru), (1, .ref nw), (2, .int p1), (3, .int p2)]) hx hb dX6_room_96 hl (by decide) rfl (fun ls hl => ?_)
            refine lv_goto (tgt := 50) hx hb dX6_room_98 (by decide) ?_
            exact ih_50 ((k + 1), r_93) (by show (k + 1) ≤ 9 ∧ 9 < (k + 1) + n_50 ∧ -1 ≤ r_93.toInt ∧ r_93.toInt ≤ 80; omega) H _ hP hD hS ls (lv_sub hl [1, 0, 2, 3, 4, 5, 6] rfl)
  refine lv_icmp_ne (tgt := 28) hx hb dX6_room_5 (by decide) (fun c_5 => ?_) (fun c_5 => ?_)
  · have d_5 := c_5
    simp only [kt_lt, kt_le, kt_eq, kt_c0, kt_c1, kt_c2, kt_c3, kt_c4, kt_c8, kt_c9, kt_cm1, kt_c81, kt_c40, kt_c7, kt_c5, kt_c6, kt_c512, kt_c10, kt_c10000] at d_5
    refine lv_bipush (v := 9) hx hb dX6_room_28 (by decide) ?_
    exact j_30 (9 : Int32) (by show 0 ≤ (9 : Int32).toInt ∧ (9 : Int32).toInt ≤ 9; first | omega | decide) H _ hP hD hS ls (lv_sub hl [0, 1, 2, 3] rfl)
  · have d_5 := c_5
    simp only [kt_lt, kt_le, kt_eq, kt_c0, kt_c1, kt_c2, kt_c3, kt_c4, kt_c8, kt_c9, kt_cm1, kt_c81, kt_c40, kt_c7, kt_c5, kt_c6, kt_c512, kt_c10, kt_c10000] at d_5
    refine lv_aload_n hx hb dX6_room_8 rfl (lv_at hl 0 rfl) ?_
    refine va_get (D := D) (ci := 6) (C := RX6) (T := TX6) (N := 9) hx hb hts iw_X6_room_X6 hown hK hP 0 rfl rfl 0 (by decide) (hts (.fieldLink RX6 36 "KingTable$Rules" "laws" "LKingTable$Laws;") (kt_wp_X6_room__X6_room_r1 kt_wm1)) (fun _ h9 => h9) rfl dX6_room_9 ?_
    refine va_getN (D := D) (ci := 1) (C := RX1) (T := TX1) (N := 5) hx hb hts iw_X6_room_X1 hown hK hP 1 rfl rfl 3 (by decide) (va_Nw.use (w := .fieldLinkNest RX6 58 "KingTable$Laws" "reach" "I" "KingTable") rfl (hN _ (by decide +kernel))) (fun _ h9 => h9) rfl dX6_room_12 ?_
    refine lv_if_le (tgt := 28) hx hb dX6_room_15 (by decide) (fun c_15 => ?_) (fun c_15 => ?_)
    · have d_15 := c_15
      simp only [kt_lt, kt_le, kt_eq, kt_c0, kt_c1, kt_c2, kt_c3, kt_c4, kt_c8, kt_c9, kt_cm1, kt_c81, kt_c40, kt_c7, kt_c5, kt_c6, kt_c512, kt_c10, kt_c10000] at d_15
      refine lv_bipush (v := 9) hx hb dX6_room_28 (by decide) ?_
      exact j_30 (9 : Int32) (by show 0 ≤ (9 : Int32).toInt ∧ (9 : Int32).toInt ≤ 9; first | omega | decide) H _ hP hD hS ls (lv_sub hl [0, 1, 2, 3] rfl)
    · have d_15 := c_15
      simp only [kt_lt, kt_le, kt_eq, kt_c0, kt_c1, kt_c2, kt_c3, kt_c4, kt_c8, kt_c9, kt_cm1, kt_c81, kt_c40, kt_c7, kt_c5, kt_c6, kt_c512, kt_c10, kt_c10000] at d_15
      refine lv_aload_n hx hb dX6_room_18 rfl (lv_at hl 0 rfl) ?_
      refine va_get (D := D) (ci := 6) (C := RX6) (T := TX6) (N := 9) hx hb hts iw_X6_room_X6 hown hK hP 0 rfl rfl 0 (by decide) (hts (.fieldLink RX6 36 "KingTable$Rules" "laws" "LKingTable$Laws;") (kt_wp_X6_room__X6_room_r1 kt_wm1)) (fun _ h9 => h9) rfl dX6_room_19 ?_
      refine va_getN (D := D) (ci := 1) (C := RX1) (T := TX1) (N := 5) hx hb hts iw_X6_room_X1 hown hK hP 1 rfl rfl 3 (by decide) (va_Nw.use (w := .fieldLinkNest RX6 58 "KingTable$Laws" "reach" "I" "KingTable") rfl (hN _ (by decide +kernel))) (fun _ h9 => h9) rfl dX6_room_22 ?_
      refine lv_goto (tgt := 30) hx hb dX6_room_25 (by decide) ?_
      exact j_30 lr (by show 0 ≤ lr.toInt ∧ lr.toInt ≤ 9; first | omega | decide) H _ hP hD hS ls (lv_sub hl [0, 1, 2, 3] rfl)

theorem iw_X6_canGo_X6 : ∀ w ∈ wsX60, w ∈ wsX6_canGo := fun _ h => kt_wp_X6_canGo__X60 h
theorem iw_X6_canGo_X8 : ∀ w ∈ wsX80, w ∈ wsX6_canGo := fun _ h => kt_wp_X6_canGo__X80 h
set_option maxHeartbeats 4000000 in
set_option maxRecDepth 100000 in
theorem c_X6_canGo (l : Launch) (D : va_G) (cI cZ cB : ClassId) (sz : Nat) (ru : Nat) (la : Nat) (gr : Nat) (rk : Nat) (rs : Nat) (rt : Nat) (rv : Nat) (tt : Int32) (kg : Int32) (vc : Int32) (lg : Int32) (lh : Int32) (lt : Int32) (lr : Int32) (lc : Int32) (gt : Nat) (gg : Nat) (gn : Nat) (gs : Int32) (gm : Int32) (tg : Nat → Int32) (nb : Nat → Int32) (nw : Nat) (sf : Nat) (sh : Nat) (tu : Int32) (ff : Nat → Int32) (fh : Nat → Int32) (fs : Nat → Int32) (hgs : 0 ≤ gs.toInt ∧ gs.toInt ≤ 81) (hgt : kt_r tg 81 0 2) (hnb : kt_r nb 324 (-1) 80) (hff : kt_r ff 40 (-1) 80) (hfh : kt_r fh 81 (-1) 39) (hlr : 0 ≤ lr.toInt ∧ lr.toInt ≤ 8) (htt : 0 ≤ tt.toInt ∧ tt.toInt ≤ 40) (hrs : kt_r fs 40 0 1) : kt_Mi l yX6_canGo wsX6_canGo { frames := 2, cells := 0, slots := 0, locals := 49 } D (kt_ty cI cZ cB) [.ref ru, .ref nw] sz [(ru, .inr (6, [.ref la, .ref gr, .ref rk, .ref rs, .ref rt, .int tt, .int kg, .ref rv, .int vc])), (la, .inr (1, [.int lg, .int lh, .int lt, .int lr, .int lc])), (gr, .inr (0, [.ref gt, .ref gg, .ref gn, .int gs, .int gm])), (gt, .inl (cI, 81, .inl tg)), (gn, .inl (cI, 324, .inl nb)), (nw, .inr (8, [.ref sf, .ref sh, .int tu])), (sf, .inl (cI, 40, .inl ff)), (sh, .inl (cI, 81, .inl fh)), (rs, .inl (cI, 40, .inl fs))] (fun (r : Int32) (u : Unit) => 0 ≤ r.toInt ∧ r.toInt ≤ 1) (fun (u : Unit) => [(ru, .inr (6, [.ref la, .ref gr, .ref rk, .ref rs, .ref rt, .int tt, .int kg, .ref rv, .int vc])), (la, .inr (1, [.int lg, .int lh, .int lt, .int lr, .int lc])), (gr, .inr (0, [.ref gt, .ref gg, .ref gn, .int gs, .int gm])), (gt, .inl (cI, 81, .inl tg)), (gn, .inl (cI, 324, .inl nb)), (nw, .inr (8, [.ref sf, .ref sh, .int tu])), (sf, .inl (cI, 40, .inl ff)), (sh, .inl (cI, 81, .inl fh)), (rs, .inl (cI, 40, .inl fs))]) 0 0 := by
  refine kt_Mi.of (cc := cX6_canGo) (maxL := 4) (ret := some .boolean) (by decide) rfl (Nat.le_of_ble_eq_true rfl) ?_
  intro p e s m below meth c A ls H hAt hP hD hS hl
  obtain ⟨hx, hb, hr, hml, hown, hts, hN, hK, hlk, hnm, hA⟩ := hAt
  have hl : lv_has ls 4 [(0, .ref ru), (1, .ref nw)] := hl
  have hown : s.vm.findClass RX6 = some m.cls := hown
  refine lv_iconst (v := 0) hx hb dX6_canGo_0 (by decide) ?_
  refine lv_istore_n (lv' := [(2, .int 0), (0, .ref ru), (1, .ref nw)]) hx hb dX6_canGo_1 rfl hl (by decide) rfl (fun ls hl => ?_)
  refine kt_loop (σ := Nat) 2 4 (fun u => [(ru, .inr (6, [.ref la, .ref gr, .ref rk, .ref rs, .ref rt, .int tt, .int kg, .ref rv, .int vc])), (la, .inr (1, [.int lg, .int lh, .int lt, .int lr, .int lc])), (gr, .inr (0, [.ref gt, .ref gg, .ref gn, .int gs, .int gm])), (gt, .inl (cI, 81, .inl tg)), (gn, .inl (cI, 324, .inl nb)), (nw, .inr (8, [.ref sf, .ref sh, .int tu])), (sf, .inl (cI, 40, .inl ff)), (sh, .inl (cI, 81, .inl fh)), (rs, .inl (cI, 40, .inl fs))]) (fun u => [(2, .int (nI u)), (0, .ref ru), (1, .ref nw)]) (fun n u => u ≤ 40 ∧ 40 < u + n) (fun u h => by omega) (fun n_2 ih_2 u hI H locs hP hD hS ls hl => ?_) (41) 0 (by show 0 ≤ 40 ∧ 40 < 0 + 41; exact ⟨by decide, by decide⟩) hP hD hS (lv_sub hl [0, 1, 2] rfl)
  obtain ⟨k, rfl⟩ : ∃ z, z = u := ⟨_, rfl⟩
  have hP : va_P D vwCl [(ru, .inr (6, [.ref la, .ref gr, .ref rk, .ref rs, .ref rt, .int tt, .int kg, .ref rv, .int vc])), (la, .inr (1, [.int lg, .int lh, .int lt, .int lr, .int lc])), (gr, .inr (0, [.ref gt, .ref gg, .ref gn, .int gs, .int gm])), (gt, .inl (cI, 81, .inl tg)), (gn, .inl (cI, 324, .inl nb)), (nw, .inr (8, [.ref sf, .ref sh, .int tu])), (sf, .inl (cI, 40, .inl ff)), (sh, .inl (cI, 81, .inl fh)), (rs, .inl (cI, 40, .inl fs))] H := hP
  have hD : va_D A [(ru, .inr (6, [.ref la, .ref gr, .ref rk, .ref rs, .ref rt, .int tt, .int kg, .ref rv, .int vc])), (la, .inr (1, [.int lg, .int lh, .int lt, .int lr, .int lc])), (gr, .inr (0, [.ref gt, .ref gg, .ref gn, .int gs, .int gm])), (gt, .inl (cI, 81, .inl tg)), (gn, .inl (cI, 324, .inl nb)), (nw, .inr (8, [.ref sf, .ref sh, .int tu])), (sf, .inl (cI, 40, .inl ff)), (sh, .inl (cI, 81, .inl fh)), (rs, .inl (cI, 40, .inl fs))] := hD
  have hl : lv_has ls 4 [(2, .int (nI k)), (0, .ref ru), (1, .ref nw)] := hl
  have hI : k ≤ 40 ∧ 40 < k + (n_2 + 1) := hI
  have hk0 := kt_nI (n := k) (by omega)
  refine lv_iload_n hx hb dX6_canGo_2 rfl (lv_at hl 0 rfl) ?_
  refine lv_aload_n hx hb dX6_canGo_3 rfl (lv_at hl 1 rfl) ?_
  refine va_get (D := D) (ci := 6) (C := RX6) (T := TX6) (N := 9) hx hb hts iw_X6_canGo_X6 hown hK hP 0 rfl rfl 5 (by decide) (hts (.fieldLink RX6 40 "KingTable$Rules" "total" "I") (kt_wp_X6_canGo__X6_canGo_r1 kt_wm0)) (fun _ h9 => h9) rfl dX6_canGo_4 ?_
  refine lv_icmp_ge (tgt := 54) hx hb dX6_canGo_7 (by decide) (fun c_7 => ?_) (fun c_7 => ?_)
  · have d_7 := c_7
    simp only [kt_lt, kt_le, kt_eq, kt_c0, kt_c1, kt_c2, kt_c3, kt_c4, kt_c8, kt_c9, kt_cm1, kt_c81, kt_c40, kt_c7, kt_c5, kt_c6, kt_c512, kt_c10, kt_c10000] at d_7
    refine lv_iconst (v := 0) hx hb dX6_canGo_54 (by decide) ?_
    exact kt_rz () hx hb hr hlk hS dX6_canGo_55 hP hD (by show 0 ≤ (0 : Int32).toInt ∧ (0 : Int32).toInt ≤ 1; decide) rfl
  · have d_7 := c_7
    simp only [kt_lt, kt_le, kt_eq, kt_c0, kt_c1, kt_c2, kt_c3, kt_c4, kt_c8, kt_c9, kt_cm1, kt_c81, kt_c40, kt_c7, kt_c5, kt_c6, kt_c512, kt_c10, kt_c10000] at d_7
    refine lv_iconst (v := 0) hx hb dX6_canGo_10 (by decide) ?_
    refine lv_istore_n (lv' := [(3, .int 0), (2, .int (nI k)), (0, .ref ru), (1, .ref nw)]) hx hb dX6_canGo_11 rfl hl (by decide) rfl (fun ls hl => ?_)
    refine kt_loop (σ := Nat) 12 4 (fun u => [(ru, .inr (6, [.ref la, .ref gr, .ref rk, .ref rs, .ref rt, .int tt, .int kg, .ref rv, .int vc])), (la, .inr (1, [.int lg, .int lh, .int lt, .int lr, .int lc])), (gr, .inr (0, [.ref gt, .ref gg, .ref gn, .int gs, .int gm])), (gt, .inl (cI, 81, .inl tg)), (gn, .inl (cI, 324, .inl nb)), (nw, .inr (8, [.ref sf, .ref sh, .int tu])), (sf, .inl (cI, 40, .inl ff)), (sh, .inl (cI, 81, .inl fh)), (rs, .inl (cI, 40, .inl fs))]) (fun u => [(3, .int (nI u)), (2, .int (nI k)), (0, .ref ru), (1, .ref nw)]) (fun n u => u ≤ 4 ∧ 4 < u + n) (fun u h => by omega) (fun n_12 ih_12 u hI H locs hP hD hS ls hl => ?_) (5) 0 (by show 0 ≤ 4 ∧ 4 < 0 + 5; exact ⟨by decide, by decide⟩) hP hD hS (lv_sub hl [0, 1, 2, 3] rfl)
    obtain ⟨w, rfl⟩ : ∃ z, z = u := ⟨_, rfl⟩
    have hP : va_P D vwCl [(ru, .inr (6, [.ref la, .ref gr, .ref rk, .ref rs, .ref rt, .int tt, .int kg, .ref rv, .int vc])), (la, .inr (1, [.int lg, .int lh, .int lt, .int lr, .int lc])), (gr, .inr (0, [.ref gt, .ref gg, .ref gn, .int gs, .int gm])), (gt, .inl (cI, 81, .inl tg)), (gn, .inl (cI, 324, .inl nb)), (nw, .inr (8, [.ref sf, .ref sh, .int tu])), (sf, .inl (cI, 40, .inl ff)), (sh, .inl (cI, 81, .inl fh)), (rs, .inl (cI, 40, .inl fs))] H := hP
    have hD : va_D A [(ru, .inr (6, [.ref la, .ref gr, .ref rk, .ref rs, .ref rt, .int tt, .int kg, .ref rv, .int vc])), (la, .inr (1, [.int lg, .int lh, .int lt, .int lr, .int lc])), (gr, .inr (0, [.ref gt, .ref gg, .ref gn, .int gs, .int gm])), (gt, .inl (cI, 81, .inl tg)), (gn, .inl (cI, 324, .inl nb)), (nw, .inr (8, [.ref sf, .ref sh, .int tu])), (sf, .inl (cI, 40, .inl ff)), (sh, .inl (cI, 81, .inl fh)), (rs, .inl (cI, 40, .inl fs))] := hD
    have hl : lv_has ls 4 [(3, .int (nI w)), (2, .int (nI k)), (0, .ref ru), (1, .ref nw)] := hl
    have hI : w ≤ 4 ∧ 4 < w + (n_12 + 1) := hI
    have hw0 := kt_nI (n := w) (by omega)
    refine lv_aload_n hx hb dX6_canGo_12 rfl (lv_at hl 2 rfl) ?_
    refine va_get (D := D) (ci := 6) (C := RX6) (T := TX6) (N := 9) hx hb hts iw_X6_canGo_X6 hown hK hP 0 rfl rfl 3 (by decide) (hts (.fieldLink RX6 22 "KingTable$Rules" "sides" "[I") (kt_wp_X6_canGo__X6_canGo_r1 kt_wm1)) (fun _ h9 => h9) rfl dX6_canGo_13 ?_
    refine lv_iload_n hx hb dX6_canGo_16 rfl (lv_at hl 1 rfl) ?_
    have hi_1 : vp_in (nI k) 40 := by exact kt_in (by omega) (by omega)
    refine va_iald hx hb hK hP 8 0 rfl rfl hi_1 dX6_canGo_17 ?_
    refine lv_topi (fun a_17 ea_17 => ?_)
    have ra_17 := hrs.get hi_1
    rw [← ea_17] at ra_17
    refine lv_aload_n hx hb dX6_canGo_18 rfl (lv_at hl 3 rfl) ?_
    refine va_getN (D := D) (ci := 8) (C := RX8) (T := TX8) (N := 3) hx hb hts iw_X6_canGo_X8 hown hK hP 5 rfl rfl 2 (by decide) (va_Nw.use (w := .fieldLinkNest RX6 82 "KingTable$Stand" "turn" "I" "KingTable") rfl (hN _ (by decide +kernel))) (fun _ h9 => h9) rfl dX6_canGo_19 ?_
    refine lv_icmp_ne (tgt := 48) hx hb dX6_canGo_22 (by decide) (fun c_22 => ?_) (fun c_22 => ?_)
    · have d_22 := c_22
      simp only [kt_lt, kt_le, kt_eq, kt_c0, kt_c1, kt_c2, kt_c3, kt_c4, kt_c8, kt_c9, kt_cm1, kt_c81, kt_c40, kt_c7, kt_c5, kt_c6, kt_c512, kt_c10, kt_c10000] at d_22
      refine lv_iinc (v := nI (k + 1)) (lv' := [(2, .int (nI (k + 1))), (3, .int (nI w)), (0, .ref ru), (1, .ref nw)]) hx hb dX6_canGo_48 hl (k := 1) rfl (nI_1 _) (by decide) rfl (fun ls hl => ?_)
      refine lv_goto (tgt := 2) hx hb dX6_canGo_51 (by decide) ?_
      exact ih_2 (k + 1) (by show (k + 1) ≤ 40 ∧ 40 < (k + 1) + n_2; omega) H _ hP hD hS ls (lv_sub hl [0, 2, 3] rfl)
    · have d_22 := c_22
      simp only [kt_lt, kt_le, kt_eq, kt_c0, kt_c1, kt_c2, kt_c3, kt_c4, kt_c8, kt_c9, kt_cm1, kt_c81, kt_c40, kt_c7, kt_c5, kt_c6, kt_c512, kt_c10, kt_c10000] at d_22
      refine lv_iload_n hx hb dX6_canGo_25 rfl (lv_at hl 0 rfl) ?_
      refine lv_iconst (v := 4) hx hb dX6_canGo_26 (by decide) ?_
      refine lv_icmp_ge (tgt := 48) hx hb dX6_canGo_27 (by decide) (fun c_27 => ?_) (fun c_27 => ?_)
      · have d_27 := c_27
        simp only [kt_lt, kt_le, kt_eq, kt_c0, kt_c1, kt_c2, kt_c3, kt_c4, kt_c8, kt_c9, kt_cm1, kt_c81, kt_c40, kt_c7, kt_c5, kt_c6, kt_c512, kt_c10, kt_c10000] at d_27
        refine lv_iinc (v := nI (k + 1)) (lv' := [(2, .int (nI (k + 1))), (3, .int (nI w)), (0, .ref ru), (1, .ref nw)]) hx hb dX6_canGo_48 hl (k := 1) rfl (nI_1 _) (by decide) rfl (fun ls hl => ?_)
        refine lv_goto (tgt := 2) hx hb dX6_canGo_51 (by decide) ?_
        exact ih_2 (k + 1) (by show (k + 1) ≤ 40 ∧ 40 < (k + 1) + n_2; omega) H _ hP hD hS ls (lv_sub hl [0, 2, 3] rfl)
      · have d_27 := c_27
        simp only [kt_lt, kt_le, kt_eq, kt_c0, kt_c1, kt_c2, kt_c3, kt_c4, kt_c8, kt_c9, kt_cm1, kt_c81, kt_c40, kt_c7, kt_c5, kt_c6, kt_c512, kt_c10, kt_c10000] at d_27
        refine lv_aload_n hx hb dX6_canGo_30 rfl (lv_at hl 2 rfl) ?_
        refine lv_aload_n hx hb dX6_canGo_31 rfl (lv_at hl 3 rfl) ?_
        refine lv_iload_n hx hb dX6_canGo_32 rfl (lv_at hl 1 rfl) ?_
        refine lv_iload_n hx hb dX6_canGo_33 rfl (lv_at hl 0 rfl) ?_
        refine kt_pi (wc := [(ru, .inr (6, [.ref la, .ref gr, .ref rk, .ref rs, .ref rt, .int tt, .int kg, .ref rv, .int vc])), (la, .inr (1, [.int lg, .int lh, .int lt, .int lr, .int lc])), (gr, .inr (0, [.ref gt, .ref gg, .ref gn, .int gs, .int gm])), (gt, .inl (cI, 81, .inl tg)), (gn, .inl (cI, 324, .inl nb)), (nw, .inr (8, [.ref sf, .ref sh, .int tu])), (sf, .inl (cI, 40, .inl ff)), (sh, .inl (cI, 81, .inl fh))]) [0, 1, 2, 3, 4, 5, 6, 7] hP hD hS hA rfl (by decide) (fun hPc hDc => va_runV (As := [.ref nw, .int (nI k), .int (nI w)]) (rest := []) ⟨hx, hb, hml, hown, hts⟩ (c_X6_room l D cI cZ cB H.size ru la gr rk rs rt rv tt kg vc lg lh lt lr lc gt gg gn gs gm tg nb nw sf sh tu ff fh (nI k) (nI w) (by first | assumption | omega | rfl | decide) (by first | assumption | omega | rfl | decide) (by first | assumption | omega | rfl | decide) (by first | assumption | omega | rfl | decide) (by first | assumption | omega | rfl | decide) (by first | assumption | omega | rfl | decide)) (cwV 3 hts gX6_canGo_X6_room rfl rfl rfl (by decide +kernel) ⟨Nat.le_of_ble_eq_true rfl, Nat.le_of_ble_eq_true rfl⟩) (kt_preV hN hK hPc hDc 0 (ci := 6) (q := (RX6, TX6, 9)) rfl rfl) rfl rfl hl.1 rfl (lv_room (Nat.le_of_ble_eq_true rfl)) dX6_canGo_34 ⟨Nat.le_of_ble_eq_true rfl, Nat.le_of_ble_eq_true rfl⟩) (fun r_34 _ H locs hw_34 hP hS => ?_)
        refine lv_if_le (tgt := 42) hx hb dX6_canGo_37 (by decide) (fun c_37 => ?_) (fun c_37 => ?_)
        · have d_37 := c_37
          simp only [kt_lt, kt_le, kt_eq, kt_c0, kt_c1, kt_c2, kt_c3, kt_c4, kt_c8, kt_c9, kt_cm1, kt_c81, kt_c40, kt_c7, kt_c5, kt_c6, kt_c512, kt_c10, kt_c10000] at d_37
          refine lv_iinc (v := nI (w + 1)) (lv' := [(3, .int (nI (w + 1))), (2, .int (nI k)), (0, .ref ru), (1, .ref nw)]) hx hb dX6_canGo_42 hl (k := 0) rfl (nI_1 _) (by decide) rfl (fun ls hl => ?_)
          refine lv_goto (tgt := 12) hx hb dX6_canGo_45 (by decide) ?_
          exact ih_12 (w + 1) (by show (w + 1) ≤ 4 ∧ 4 < (w + 1) + n_12; omega) H _ hP hD hS ls (lv_sub hl [0, 1, 2, 3] rfl)
        · have d_37 := c_37
          simp only [kt_lt, kt_le, kt_eq, kt_c0, kt_c1, kt_c2, kt_c3, kt_c4, kt_c8, kt_c9, kt_cm1, kt_c81, kt_c40, kt_c7, kt_c5, kt_c6, kt_c512, kt_c10, kt_c10000] at d_37
          refine lv_iconst (v := 1) hx hb dX6_canGo_40 (by decide) ?_
          exact kt_rz () hx hb hr hlk hS dX6_canGo_41 hP hD (by show 0 ≤ (1 : Int32).toInt ∧ (1 : Int32).toInt ≤ 1; decide) rfl

theorem iw_X6_winner_X6 : ∀ w ∈ wsX60, w ∈ wsX6_winner := fun _ h => kt_wp_X6_winner__X60 h
theorem iw_X6_winner_X8 : ∀ w ∈ wsX80, w ∈ wsX6_winner := fun _ h => kt_wp_X6_winner__X80 h
set_option maxHeartbeats 4000000 in
set_option maxRecDepth 100000 in
theorem c_X6_winner (l : Launch) (D : va_G) (cI cZ cB : ClassId) (sz : Nat) (ru : Nat) (la : Nat) (gr : Nat) (rk : Nat) (rs : Nat) (rt : Nat) (rv : Nat) (tt : Int32) (kg : Int32) (vc : Int32) (lg : Int32) (lh : Int32) (lt : Int32) (lr : Int32) (lc : Int32) (gt : Nat) (gg : Nat) (gn : Nat) (gs : Int32) (gm : Int32) (tg : Nat → Int32) (nb : Nat → Int32) (nw : Nat) (sf : Nat) (sh : Nat) (tu : Int32) (ff : Nat → Int32) (fh : Nat → Int32) (fs : Nat → Int32) (gl : Nat → Int32) (hgs : 0 ≤ gs.toInt ∧ gs.toInt ≤ 81) (hgt : kt_r tg 81 0 2) (hnb : kt_r nb 324 (-1) 80) (hff : kt_r ff 40 (-1) 80) (hfh : kt_r fh 81 (-1) 39) (hlr : 0 ≤ lr.toInt ∧ lr.toInt ≤ 8) (htt : 0 ≤ tt.toInt ∧ tt.toInt ≤ 40) (hrs : kt_r fs 40 0 1) (hgg : kt_r gl 81 0 1) (htu : 0 ≤ tu.toInt ∧ tu.toInt ≤ 1) : kt_Mi l yX6_winner wsX6_winner { frames := 3, cells := 0, slots := 0, locals := 72 } D (kt_ty cI cZ cB) [.ref ru, .ref nw] sz [(ru, .inr (6, [.ref la, .ref gr, .ref rk, .ref rs, .ref rt, .int tt, .int kg, .ref rv, .int vc])), (la, .inr (1, [.int lg, .int lh, .int lt, .int lr, .int lc])), (gr, .inr (0, [.ref gt, .ref gg, .ref gn, .int gs, .int gm])), (gt, .inl (cI, 81, .inl tg)), (gn, .inl (cI, 324, .inl nb)), (nw, .inr (8, [.ref sf, .ref sh, .int tu])), (sf, .inl (cI, 40, .inl ff)), (sh, .inl (cI, 81, .inl fh)), (rs, .inl (cI, 40, .inl fs)), (gg, .inl (cZ, 81, .inl gl))] (fun (r : Int32) (u : Unit) => -1 ≤ r.toInt ∧ r.toInt ≤ 1) (fun (u : Unit) => [(ru, .inr (6, [.ref la, .ref gr, .ref rk, .ref rs, .ref rt, .int tt, .int kg, .ref rv, .int vc])), (la, .inr (1, [.int lg, .int lh, .int lt, .int lr, .int lc])), (gr, .inr (0, [.ref gt, .ref gg, .ref gn, .int gs, .int gm])), (gt, .inl (cI, 81, .inl tg)), (gn, .inl (cI, 324, .inl nb)), (nw, .inr (8, [.ref sf, .ref sh, .int tu])), (sf, .inl (cI, 40, .inl ff)), (sh, .inl (cI, 81, .inl fh)), (rs, .inl (cI, 40, .inl fs)), (gg, .inl (cZ, 81, .inl gl))]) 0 0 := by
  refine kt_Mi.of (cc := cX6_winner) (maxL := 3) (ret := some .int) (by decide) rfl (Nat.le_of_ble_eq_true rfl) ?_
  intro p e s m below meth c A ls H hAt hP hD hS hl
  obtain ⟨hx, hb, hr, hml, hown, hts, hN, hK, hlk, hnm, hA⟩ := hAt
  have hl : lv_has ls 3 [(0, .ref ru), (1, .ref nw)] := hl
  have hown : s.vm.findClass RX6 = some m.cls := hown
  refine lv_aload_n hx hb dX6_winner_0 rfl (lv_at hl 1 rfl) ?_
  refine lv_aload_n hx hb dX6_winner_1 rfl (lv_at hl 0 rfl) ?_
  refine va_get (D := D) (ci := 6) (C := RX6) (T := TX6) (N := 9) hx hb hts iw_X6_winner_X6 hown hK hP 0 rfl rfl 6 (by decide) (hts (.fieldLink RX6 29 "KingTable$Rules" "king" "I") (kt_wp_X6_winner__X6_winner_r1 kt_wm0)) (fun _ h9 => h9) rfl dX6_winner_2 ?_
  refine kt_pi (wc := [(nw, .inr (8, [.ref sf, .ref sh, .int tu])), (sf, .inl (cI, 40, .inl ff))]) [5, 6] hP hD hS hA rfl (by decide) (fun hPc hDc => va_runV (As := [.int kg]) (rest := []) ⟨hx, hb, hml, hown, hts⟩ (c_X8_fieldOf l D cI cZ cB H.size nw sf sh tu ff kg (by first | assumption | omega | rfl | decide)) (cwV 1 hts gX6_winner_X8_fieldOf rfl rfl rfl (by decide +kernel) ⟨Nat.le_of_ble_eq_true rfl, Nat.le_of_ble_eq_true rfl⟩) (kt_preV hN hK hPc hDc 0 (ci := 8) (q := (RX8, TX8, 3)) rfl rfl) rfl rfl hl.1 rfl (lv_room (Nat.le_of_ble_eq_true rfl)) dX6_winner_5 ⟨Nat.le_of_ble_eq_true rfl, Nat.le_of_ble_eq_true rfl⟩) (fun r_5 _ H locs hw_5 hP hS => ?_)
  refine lv_istore_n (lv' := [(2, .int r_5), (0, .ref ru), (1, .ref nw)]) hx hb dX6_winner_8 rfl hl (by decide) rfl (fun ls hl => ?_)
  refine lv_iload_n hx hb dX6_winner_9 rfl (lv_at hl 0 rfl) ?_
  refine lv_iconst (v := (-1)) hx hb dX6_winner_10 (by decide) ?_
  refine lv_icmp_ne (tgt := 16) hx hb dX6_winner_11 (by decide) (fun c_11 => ?_) (fun c_11 => ?_)
  · have d_11 := c_11
    simp only [kt_lt, kt_le, kt_eq, kt_c0, kt_c1, kt_c2, kt_c3, kt_c4, kt_c8, kt_c9, kt_cm1, kt_c81, kt_c40, kt_c7, kt_c5, kt_c6, kt_c512, kt_c10, kt_c10000] at d_11
    refine lv_aload_n hx hb dX6_winner_16 rfl (lv_at hl 1 rfl) ?_
    refine lv_iload_n hx hb dX6_winner_17 rfl (lv_at hl 0 rfl) ?_
    refine kt_pi (wc := [(ru, .inr (6, [.ref la, .ref gr, .ref rk, .ref rs, .ref rt, .int tt, .int kg, .ref rv, .int vc])), (gr, .inr (0, [.ref gt, .ref gg, .ref gn, .int gs, .int gm])), (gg, .inl (cZ, 81, .inl gl))]) [0, 2, 9] hP hD hS hA rfl (by decide) (fun hPc hDc => va_runV (As := [.int r_5]) (rest := []) ⟨hx, hb, hml, hown, hts⟩ (c_X6_isGoal l D cI cZ cB H.size ru la gr rk rs rt rv tt kg vc gt gg gn gs gm gl r_5 (by first | assumption | omega | rfl | decide) (by first | assumption | omega | rfl | decide)) (cwV 1 hts gX6_winner_X6_isGoal rfl rfl rfl (by decide +kernel) ⟨Nat.le_of_ble_eq_true rfl, Nat.le_of_ble_eq_true rfl⟩) (kt_preV hN hK hPc hDc 0 (ci := 6) (q := (RX6, TX6, 9)) rfl rfl) rfl rfl hl.1 rfl (lv_room (Nat.le_of_ble_eq_true rfl)) dX6_winner_18 ⟨Nat.le_of_ble_eq_true rfl, Nat.le_of_ble_eq_true rfl⟩) (fun r_18 _ H locs hw_18 hP hS => ?_)
    refine lv_if_eq (tgt := 26) hx hb dX6_winner_21 (by decide) (fun c_21 => ?_) (fun c_21 => ?_)
    · have d_21 := c_21
      simp only [kt_lt, kt_le, kt_eq, kt_c0, kt_c1, kt_c2, kt_c3, kt_c4, kt_c8, kt_c9, kt_cm1, kt_c81, kt_c40, kt_c7, kt_c5, kt_c6, kt_c512, kt_c10, kt_c10000] at d_21
      refine lv_aload_n hx hb dX6_winner_26 rfl (lv_at hl 1 rfl) ?_
      refine lv_aload_n hx hb dX6_winner_27 rfl (lv_at hl 2 rfl) ?_
      refine kt_pi (wc := [(ru, .inr (6, [.ref la, .ref gr, .ref rk, .ref rs, .ref rt, .int tt, .int kg, .ref rv, .int vc])), (la, .inr (1, [.int lg, .int lh, .int lt, .int lr, .int lc])), (gr, .inr (0, [.ref gt, .ref gg, .ref gn, .int gs, .int gm])), (gt, .inl (cI, 81, .inl tg)), (gn, .inl (cI, 324, .inl nb)), (nw, .inr (8, [.ref sf, .ref sh, .int tu])), (sf, .inl (cI, 40, .inl ff)), (sh, .inl (cI, 81, .inl fh)), (rs, .inl (cI, 40, .inl fs))]) [0, 1, 2, 3, 4, 5, 6, 7, 8] hP hD hS hA rfl (by decide) (fun hPc hDc => va_runV (As := [.ref nw]) (rest := []) ⟨hx, hb, hml, hown, hts⟩ (c_X6_canGo l D cI cZ cB H.size ru la gr rk rs rt rv tt kg vc lg lh lt lr lc gt gg gn gs gm tg nb nw sf sh tu ff fh fs (by first | assumption | omega | rfl | decide) (by first | assumption | omega | rfl | decide) (by first | assumption | omega | rfl | decide) (by first | assumption | omega | rfl | decide) (by first | assumption | omega | rfl | decide) (by first | assumption | omega | rfl | decide) (by first | assumption | omega | rfl | decide) (by first | assumption | omega | rfl | decide)) (cwV 1 hts gX6_winner_X6_canGo rfl rfl rfl (by decide +kernel) ⟨Nat.le_of_ble_eq_true rfl, Nat.le_of_ble_eq_true rfl⟩) (kt_preV hN hK hPc hDc 0 (ci := 6) (q := (RX6, TX6, 9)) rfl rfl) rfl rfl hl.1 rfl (lv_room (Nat.le_of_ble_eq_true rfl)) dX6_winner_28 ⟨Nat.le_of_ble_eq_true rfl, Nat.le_of_ble_eq_true rfl⟩) (fun r_28 _ H locs hw_28 hP hS => ?_)
      refine lv_if_eq (tgt := 38) hx hb dX6_winner_31 (by decide) (fun c_31 => ?_) (fun c_31 => ?_)
      · have d_31 := c_31
        simp only [kt_lt, kt_le, kt_eq, kt_c0, kt_c1, kt_c2, kt_c3, kt_c4, kt_c8, kt_c9, kt_cm1, kt_c81, kt_c40, kt_c7, kt_c5, kt_c6, kt_c512, kt_c10, kt_c10000] at d_31
        refine lv_iconst (v := 1) hx hb dX6_winner_38 (by decide) ?_
        refine lv_aload_n hx hb dX6_winner_39 rfl (lv_at hl 2 rfl) ?_
        refine va_getN (D := D) (ci := 8) (C := RX8) (T := TX8) (N := 3) hx hb hts iw_X6_winner_X8 hown hK hP 5 rfl rfl 2 (by decide) (va_Nw.use (w := .fieldLinkNest RX6 82 "KingTable$Stand" "turn" "I" "KingTable") rfl (hN _ (by decide +kernel))) (fun _ h9 => h9) rfl dX6_winner_40 ?_
        refine lv_isub hx hb dX6_winner_43 ?_
        refine lv_topi (fun t_43 et_43 => ?_)
        obtain ⟨k_43, hk_43, hm_43, hM_43⟩ := kt_subk et_43
        try simp only [kt_c0, kt_c1, kt_c2, kt_c3, kt_c4, kt_c8, kt_c9, kt_cm1, kt_c81, kt_c40, kt_c7, kt_c5, kt_c6, kt_c512, kt_c10, kt_c10000] at hk_43
        exact kt_ri () hx hb hr hlk hS dX6_winner_44 hP hD (by show -1 ≤ t_43.toInt ∧ t_43.toInt ≤ 1; first | omega | decide)
      · have d_31 := c_31
        simp only [kt_lt, kt_le, kt_eq, kt_c0, kt_c1, kt_c2, kt_c3, kt_c4, kt_c8, kt_c9, kt_cm1, kt_c81, kt_c40, kt_c7, kt_c5, kt_c6, kt_c512, kt_c10, kt_c10000] at d_31
        refine lv_iconst (v := (-1)) hx hb dX6_winner_34 (by decide) ?_
        refine lv_goto (tgt := 44) hx hb dX6_winner_35 (by decide) ?_
        exact kt_ri () hx hb hr hlk hS dX6_winner_44 hP hD (by show -1 ≤ (-1 : Int32).toInt ∧ (-1 : Int32).toInt ≤ 1; first | omega | decide)
    · have d_21 := c_21
      simp only [kt_lt, kt_le, kt_eq, kt_c0, kt_c1, kt_c2, kt_c3, kt_c4, kt_c8, kt_c9, kt_cm1, kt_c81, kt_c40, kt_c7, kt_c5, kt_c6, kt_c512, kt_c10, kt_c10000] at d_21
      refine lv_iconst (v := 0) hx hb dX6_winner_24 (by decide) ?_
      exact kt_ri () hx hb hr hlk hS dX6_winner_25 hP hD (by show -1 ≤ (0 : Int32).toInt ∧ (0 : Int32).toInt ≤ 1; first | omega | decide)
  · have d_11 := c_11
    simp only [kt_lt, kt_le, kt_eq, kt_c0, kt_c1, kt_c2, kt_c3, kt_c4, kt_c8, kt_c9, kt_cm1, kt_c81, kt_c40, kt_c7, kt_c5, kt_c6, kt_c512, kt_c10, kt_c10000] at d_11
    refine lv_iconst (v := 1) hx hb dX6_winner_14 (by decide) ?_
    exact kt_ri () hx hb hr hlk hS dX6_winner_15 hP hD (by show -1 ≤ (1 : Int32).toInt ∧ (1 : Int32).toInt ≤ 1; first | omega | decide)

theorem iw_X6_isFoe_X6 : ∀ w ∈ wsX60, w ∈ wsX6_isFoe := fun _ h => kt_wp_X6_isFoe__X60 h
theorem iw_X6_isFoe_X0 : ∀ w ∈ wsX00, w ∈ wsX6_isFoe := fun _ h => kt_wp_X6_isFoe__X00 h
theorem iw_X6_isFoe_X8 : ∀ w ∈ wsX80, w ∈ wsX6_isFoe := fun _ h => kt_wp_X6_isFoe__X80 h
set_option maxHeartbeats 4000000 in
set_option maxRecDepth 100000 in
theorem c_X6_isFoe (l : Launch) (D : va_G) (cI cZ cB : ClassId) (sz : Nat) (ru : Nat) (la : Nat) (gr : Nat) (rk : Nat) (rs : Nat) (rt : Nat) (rv : Nat) (tt : Int32) (kg : Int32) (vc : Int32) (gt : Nat) (gg : Nat) (gn : Nat) (gs : Int32) (gm : Int32) (tg : Nat → Int32) (nw : Nat) (sf : Nat) (sh : Nat) (tu : Int32) (fh : Nat → Int32) (fs : Nat → Int32) (ft : Nat → Int32) (p1 : Int32) (p2 : Int32) (hgs : 0 ≤ gs.toInt ∧ gs.toInt ≤ 81) (hgt : kt_r tg 81 0 2) (htt : 0 ≤ tt.toInt ∧ tt.toInt ≤ 40) (hfh : kt_r fh 81 (-1) 39) (hrs : kt_r fs 40 0 1) (hrt : kt_r ft 40 0 1) : kt_Mi l yX6_isFoe wsX6_isFoe { frames := 0, cells := 0, slots := 0, locals := 0 } D (kt_ty cI cZ cB) [.ref ru, .ref nw, .int p1, .int p2] sz [(ru, .inr (6, [.ref la, .ref gr, .ref rk, .ref rs, .ref rt, .int tt, .int kg, .ref rv, .int vc])), (gr, .inr (0, [.ref gt, .ref gg, .ref gn, .int gs, .int gm])), (gt, .inl (cI, 81, .inl tg)), (nw, .inr (8, [.ref sf, .ref sh, .int tu])), (sh, .inl (cI, 81, .inl fh)), (rs, .inl (cI, 40, .inl fs)), (rt, .inl (cZ, 40, .inl ft))] (fun (r : Int32) (u : Unit) => 0 ≤ r.toInt ∧ r.toInt ≤ 1) (fun (u : Unit) => [(ru, .inr (6, [.ref la, .ref gr, .ref rk, .ref rs, .ref rt, .int tt, .int kg, .ref rv, .int vc])), (gr, .inr (0, [.ref gt, .ref gg, .ref gn, .int gs, .int gm])), (gt, .inl (cI, 81, .inl tg)), (nw, .inr (8, [.ref sf, .ref sh, .int tu])), (sh, .inl (cI, 81, .inl fh)), (rs, .inl (cI, 40, .inl fs)), (rt, .inl (cZ, 40, .inl ft))]) 0 0 := by
  refine kt_Mi.of (cc := cX6_isFoe) (maxL := 5) (ret := some .boolean) (by decide) rfl (Nat.le_of_ble_eq_true rfl) ?_
  intro p e s m below meth c A ls H hAt hP hD hS hl
  obtain ⟨hx, hb, hr, hml, hown, hts, hN, hK, hlk, hnm, hA⟩ := hAt
  have hl : lv_has ls 5 [(0, .ref ru), (1, .ref nw), (2, .int p1), (3, .int p2)] := hl
  have hown : s.vm.findClass RX6 = some m.cls := hown
  refine lv_iload_n hx hb dX6_isFoe_0 rfl (lv_at hl 2 rfl) ?_
  refine lv_if_lt (tgt := 15) hx hb dX6_isFoe_1 (by decide) (fun c_1 => ?_) (fun c_1 => ?_)
  · have d_1 := c_1
    simp only [kt_lt, kt_le, kt_eq, kt_c0, kt_c1, kt_c2, kt_c3, kt_c4, kt_c8, kt_c9, kt_cm1, kt_c81, kt_c40, kt_c7, kt_c5, kt_c6, kt_c512, kt_c10, kt_c10000] at d_1
    refine lv_iconst (v := 0) hx hb dX6_isFoe_15 (by decide) ?_
    exact kt_rz () hx hb hr hlk hS dX6_isFoe_16 hP hD (by show 0 ≤ (0 : Int32).toInt ∧ (0 : Int32).toInt ≤ 1; decide) rfl
  · have d_1 := c_1
    simp only [kt_lt, kt_le, kt_eq, kt_c0, kt_c1, kt_c2, kt_c3, kt_c4, kt_c8, kt_c9, kt_cm1, kt_c81, kt_c40, kt_c7, kt_c5, kt_c6, kt_c512, kt_c10, kt_c10000] at d_1
    refine lv_iload_n hx hb dX6_isFoe_4 rfl (lv_at hl 2 rfl) ?_
    refine lv_aload_n hx hb dX6_isFoe_5 rfl (lv_at hl 0 rfl) ?_
    refine va_get (D := D) (ci := 6) (C := RX6) (T := TX6) (N := 9) hx hb hts iw_X6_isFoe_X6 hown hK hP 0 rfl rfl 1 (by decide) (hts (.fieldLink RX6 12 "KingTable$Rules" "ground" "LKingTable$Ground;") (List.mem_cons_of_mem _ (List.mem_append_left _ (List.mem_append_left _ (List.mem_append_left _ (List.Mem.head _)))))) (fun _ h9 => h9) rfl dX6_isFoe_6 ?_
    refine va_getN (D := D) (ci := 0) (C := RX0) (T := TX0) (N := 5) hx hb hts iw_X6_isFoe_X0 hown hK hP 1 rfl rfl 3 (by decide) (va_Nw.use (w := .fieldLinkNest RX6 49 "KingTable$Ground" "size" "I" "KingTable") rfl (hN _ (by decide +kernel))) (fun _ h9 => h9) rfl dX6_isFoe_9 ?_
    refine lv_icmp_lt (tgt := 17) hx hb dX6_isFoe_12 (by decide) (fun c_12 => ?_) (fun c_12 => ?_)
    · have d_12 := c_12
      simp only [kt_lt, kt_le, kt_eq, kt_c0, kt_c1, kt_c2, kt_c3, kt_c4, kt_c8, kt_c9, kt_cm1, kt_c81, kt_c40, kt_c7, kt_c5, kt_c6, kt_c512, kt_c10, kt_c10000] at d_12
      refine lv_aload_n hx hb dX6_isFoe_17 rfl (lv_at hl 1 rfl) ?_
      refine va_getN (D := D) (ci := 8) (C := RX8) (T := TX8) (N := 3) hx hb hts iw_X6_isFoe_X8 hown hK hP 3 rfl rfl 1 (by decide) (va_Nw.use (w := .fieldLinkNest RX6 117 "KingTable$Stand" "holders" "[I" "KingTable") rfl (hN _ (by decide +kernel))) (fun _ h9 => h9) rfl dX6_isFoe_18 ?_
      refine lv_iload_n hx hb dX6_isFoe_21 rfl (lv_at hl 2 rfl) ?_
      have hi_1 : vp_in p1 81 := by exact kt_in (by omega) (by omega)
      refine va_iald hx hb hK hP 4 0 rfl rfl hi_1 dX6_isFoe_22 ?_
      refine lv_topi (fun a_22 ea_22 => ?_)
      have ra_22 := hfh.get hi_1
      rw [← ea_22] at ra_22
      refine lv_istore (lv' := [(4, .int a_22), (0, .ref ru), (1, .ref nw), (2, .int p1), (3, .int p2)]) hx hb dX6_isFoe_23 hl (by decide) rfl (fun ls hl => ?_)
      refine lv_iload hx hb dX6_isFoe_25 (lv_at hl 0 rfl) ?_
      refine lv_if_lt (tgt := 39) hx hb dX6_isFoe_27 (by decide) (fun c_27 => ?_) (fun c_27 => ?_)
      · have d_27 := c_27
        simp only [kt_lt, kt_le, kt_eq, kt_c0, kt_c1, kt_c2, kt_c3, kt_c4, kt_c8, kt_c9, kt_cm1, kt_c81, kt_c40, kt_c7, kt_c5, kt_c6, kt_c512, kt_c10, kt_c10000] at d_27
        refine lv_aload_n hx hb dX6_isFoe_39 rfl (lv_at hl 1 rfl) ?_
        refine va_get (D := D) (ci := 6) (C := RX6) (T := TX6) (N := 9) hx hb hts iw_X6_isFoe_X6 hown hK hP 0 rfl rfl 1 (by decide) (hts (.fieldLink RX6 12 "KingTable$Rules" "ground" "LKingTable$Ground;") (List.mem_cons_of_mem _ (List.mem_append_left _ (List.mem_append_left _ (List.mem_append_left _ (List.Mem.head _)))))) (fun _ h9 => h9) rfl dX6_isFoe_40 ?_
        refine va_getN (D := D) (ci := 0) (C := RX0) (T := TX0) (N := 5) hx hb hts iw_X6_isFoe_X0 hown hK hP 1 rfl rfl 0 (by decide) (va_Nw.use (w := .fieldLinkNest RX6 52 "KingTable$Ground" "types" "[I" "KingTable") rfl (hN _ (by decide +kernel))) (fun _ h9 => h9) rfl dX6_isFoe_43 ?_
        refine lv_iload_n hx hb dX6_isFoe_46 rfl (lv_at hl 3 rfl) ?_
        have hi_2 : vp_in p1 81 := by exact kt_in (by omega) (by omega)
        refine va_iald hx hb hK hP 2 0 rfl rfl hi_2 dX6_isFoe_47 ?_
        refine lv_topi (fun a_47 ea_47 => ?_)
        have ra_47 := hgt.get hi_2
        rw [← ea_47] at ra_47
        refine lv_iconst (v := 2) hx hb dX6_isFoe_48 (by decide) ?_
        refine lv_icmp_ne (tgt := 56) hx hb dX6_isFoe_49 (by decide) (fun c_49 => ?_) (fun c_49 => ?_)
        · have d_49 := c_49
          simp only [kt_lt, kt_le, kt_eq, kt_c0, kt_c1, kt_c2, kt_c3, kt_c4, kt_c8, kt_c9, kt_cm1, kt_c81, kt_c40, kt_c7, kt_c5, kt_c6, kt_c512, kt_c10, kt_c10000] at d_49
          refine lv_iconst (v := 0) hx hb dX6_isFoe_56 (by decide) ?_
          exact kt_rz () hx hb hr hlk hS dX6_isFoe_57 hP hD (by show 0 ≤ (0 : Int32).toInt ∧ (0 : Int32).toInt ≤ 1; decide) rfl
        · have d_49 := c_49
          simp only [kt_lt, kt_le, kt_eq, kt_c0, kt_c1, kt_c2, kt_c3, kt_c4, kt_c8, kt_c9, kt_cm1, kt_c81, kt_c40, kt_c7, kt_c5, kt_c6, kt_c512, kt_c10, kt_c10000] at d_49
          refine lv_iconst (v := 1) hx hb dX6_isFoe_52 (by decide) ?_
          refine lv_goto (tgt := 57) hx hb dX6_isFoe_53 (by decide) ?_
          exact kt_rz () hx hb hr hlk hS dX6_isFoe_57 hP hD (by show 0 ≤ (1 : Int32).toInt ∧ (1 : Int32).toInt ≤ 1; decide) rfl
      · have d_27 := c_27
        simp only [kt_lt, kt_le, kt_eq, kt_c0, kt_c1, kt_c2, kt_c3, kt_c4, kt_c8, kt_c9, kt_cm1, kt_c81, kt_c40, kt_c7, kt_c5, kt_c6, kt_c512, kt_c10, kt_c10000] at d_27
        refine lv_iload hx hb dX6_isFoe_30 (lv_at hl 0 rfl) ?_
        refine lv_aload_n hx hb dX6_isFoe_32 rfl (lv_at hl 1 rfl) ?_
        refine va_get (D := D) (ci := 6) (C := RX6) (T := TX6) (N := 9) hx hb hts iw_X6_isFoe_X6 hown hK hP 0 rfl rfl 5 (by decide) (hts (.fieldLink RX6 40 "KingTable$Rules" "total" "I") (List.mem_cons_of_mem _ (List.mem_append_left _ (List.mem_append_left _ (List.mem_append_left _ (List.mem_cons_of_mem _ (List.Mem.head _))))))) (fun _ h9 => h9) rfl dX6_isFoe_33 ?_
        refine lv_icmp_lt (tgt := 58) hx hb dX6_isFoe_36 (by decide) (fun c_36 => ?_) (fun c_36 => ?_)
        · have d_36 := c_36
          simp only [kt_lt, kt_le, kt_eq, kt_c0, kt_c1, kt_c2, kt_c3, kt_c4, kt_c8, kt_c9, kt_cm1, kt_c81, kt_c40, kt_c7, kt_c5, kt_c6, kt_c512, kt_c10, kt_c10000] at d_36
          refine lv_aload_n hx hb dX6_isFoe_58 rfl (lv_at hl 1 rfl) ?_
          refine va_get (D := D) (ci := 6) (C := RX6) (T := TX6) (N := 9) hx hb hts iw_X6_isFoe_X6 hown hK hP 0 rfl rfl 3 (by decide) (hts (.fieldLink RX6 22 "KingTable$Rules" "sides" "[I") (List.mem_cons_of_mem _ (List.mem_append_left _ (List.mem_append_left _ (List.mem_append_left _ (List.mem_cons_of_mem _ (List.mem_cons_of_mem _ (List.Mem.head _)))))))) (fun _ h9 => h9) rfl dX6_isFoe_59 ?_
          refine lv_iload hx hb dX6_isFoe_62 (lv_at hl 0 rfl) ?_
          have hi_3 : vp_in a_22 40 := by exact kt_in (by omega) (by omega)
          refine va_iald hx hb hK hP 5 0 rfl rfl hi_3 dX6_isFoe_64 ?_
          refine lv_topi (fun a_64 ea_64 => ?_)
          have ra_64 := hrs.get hi_3
          rw [← ea_64] at ra_64
          refine lv_iload_n hx hb dX6_isFoe_65 rfl (lv_at hl 4 rfl) ?_
          refine lv_icmp_ne (tgt := 83) hx hb dX6_isFoe_66 (by decide) (fun c_66 => ?_) (fun c_66 => ?_)
          · have d_66 := c_66
            simp only [kt_lt, kt_le, kt_eq, kt_c0, kt_c1, kt_c2, kt_c3, kt_c4, kt_c8, kt_c9, kt_cm1, kt_c81, kt_c40, kt_c7, kt_c5, kt_c6, kt_c512, kt_c10, kt_c10000] at d_66
            refine lv_iconst (v := 0) hx hb dX6_isFoe_83 (by decide) ?_
            exact kt_rz () hx hb hr hlk hS dX6_isFoe_84 hP hD (by show 0 ≤ (0 : Int32).toInt ∧ (0 : Int32).toInt ≤ 1; decide) rfl
          · have d_66 := c_66
            simp only [kt_lt, kt_le, kt_eq, kt_c0, kt_c1, kt_c2, kt_c3, kt_c4, kt_c8, kt_c9, kt_cm1, kt_c81, kt_c40, kt_c7, kt_c5, kt_c6, kt_c512, kt_c10, kt_c10000] at d_66
            refine lv_aload_n hx hb dX6_isFoe_69 rfl (lv_at hl 1 rfl) ?_
            refine va_get (D := D) (ci := 6) (C := RX6) (T := TX6) (N := 9) hx hb hts iw_X6_isFoe_X6 hown hK hP 0 rfl rfl 4 (by decide) (hts (.fieldLink RX6 25 "KingTable$Rules" "takers" "[Z") (List.mem_cons_of_mem _ (List.mem_append_left _ (List.mem_append_left _ (List.mem_append_left _ (List.mem_cons_of_mem _ (List.mem_cons_of_mem _ (List.mem_cons_of_mem _ (List.Mem.head _))))))))) (fun _ h9 => h9) rfl dX6_isFoe_70 ?_
            refine lv_iload hx hb dX6_isFoe_73 (lv_at hl 0 rfl) ?_
            have hi_4 : vp_in a_22 40 := by exact kt_in (by omega) (by omega)
            refine va_zald hx hb hK hP 6 1 rfl rfl hi_4 dX6_isFoe_75 ?_
            refine lv_topi (fun a_75 ea_75 => ?_)
            have ra_75 := hrt.get hi_4
            rw [← ea_75] at ra_75
            refine lv_if_eq (tgt := 83) hx hb dX6_isFoe_76 (by decide) (fun c_76 => ?_) (fun c_76 => ?_)
            · have d_76 := c_76
              simp only [kt_lt, kt_le, kt_eq, kt_c0, kt_c1, kt_c2, kt_c3, kt_c4, kt_c8, kt_c9, kt_cm1, kt_c81, kt_c40, kt_c7, kt_c5, kt_c6, kt_c512, kt_c10, kt_c10000] at d_76
              refine lv_iconst (v := 0) hx hb dX6_isFoe_83 (by decide) ?_
              exact kt_rz () hx hb hr hlk hS dX6_isFoe_84 hP hD (by show 0 ≤ (0 : Int32).toInt ∧ (0 : Int32).toInt ≤ 1; decide) rfl
            · have d_76 := c_76
              simp only [kt_lt, kt_le, kt_eq, kt_c0, kt_c1, kt_c2, kt_c3, kt_c4, kt_c8, kt_c9, kt_cm1, kt_c81, kt_c40, kt_c7, kt_c5, kt_c6, kt_c512, kt_c10, kt_c10000] at d_76
              refine lv_iconst (v := 1) hx hb dX6_isFoe_79 (by decide) ?_
              refine lv_goto (tgt := 84) hx hb dX6_isFoe_80 (by decide) ?_
              exact kt_rz () hx hb hr hlk hS dX6_isFoe_84 hP hD (by show 0 ≤ (1 : Int32).toInt ∧ (1 : Int32).toInt ≤ 1; decide) rfl
        · have d_36 := c_36
          simp only [kt_lt, kt_le, kt_eq, kt_c0, kt_c1, kt_c2, kt_c3, kt_c4, kt_c8, kt_c9, kt_cm1, kt_c81, kt_c40, kt_c7, kt_c5, kt_c6, kt_c512, kt_c10, kt_c10000] at d_36
          refine lv_aload_n hx hb dX6_isFoe_39 rfl (lv_at hl 1 rfl) ?_
          refine va_get (D := D) (ci := 6) (C := RX6) (T := TX6) (N := 9) hx hb hts iw_X6_isFoe_X6 hown hK hP 0 rfl rfl 1 (by decide) (hts (.fieldLink RX6 12 "KingTable$Rules" "ground" "LKingTable$Ground;") (List.mem_cons_of_mem _ (List.mem_append_left _ (List.mem_append_left _ (List.mem_append_left _ (List.Mem.head _)))))) (fun _ h9 => h9) rfl dX6_isFoe_40 ?_
          refine va_getN (D := D) (ci := 0) (C := RX0) (T := TX0) (N := 5) hx hb hts iw_X6_isFoe_X0 hown hK hP 1 rfl rfl 0 (by decide) (va_Nw.use (w := .fieldLinkNest RX6 52 "KingTable$Ground" "types" "[I" "KingTable") rfl (hN _ (by decide +kernel))) (fun _ h9 => h9) rfl dX6_isFoe_43 ?_
          refine lv_iload_n hx hb dX6_isFoe_46 rfl (lv_at hl 3 rfl) ?_
          have hi_5 : vp_in p1 81 := by exact kt_in (by omega) (by omega)
          refine va_iald hx hb hK hP 2 0 rfl rfl hi_5 dX6_isFoe_47 ?_
          refine lv_topi (fun a_47 ea_47 => ?_)
          have ra_47 := hgt.get hi_5
          rw [← ea_47] at ra_47
          refine lv_iconst (v := 2) hx hb dX6_isFoe_48 (by decide) ?_
          refine lv_icmp_ne (tgt := 56) hx hb dX6_isFoe_49 (by decide) (fun c_49 => ?_) (fun c_49 => ?_)
          · have d_49 := c_49
            simp only [kt_lt, kt_le, kt_eq, kt_c0, kt_c1, kt_c2, kt_c3, kt_c4, kt_c8, kt_c9, kt_cm1, kt_c81, kt_c40, kt_c7, kt_c5, kt_c6, kt_c512, kt_c10, kt_c10000] at d_49
            refine lv_iconst (v := 0) hx hb dX6_isFoe_56 (by decide) ?_
            exact kt_rz () hx hb hr hlk hS dX6_isFoe_57 hP hD (by show 0 ≤ (0 : Int32).toInt ∧ (0 : Int32).toInt ≤ 1; decide) rfl
          · have d_49 := c_49
            simp only [kt_lt, kt_le, kt_eq, kt_c0, kt_c1, kt_c2, kt_c3, kt_c4, kt_c8, kt_c9, kt_cm1, kt_c81, kt_c40, kt_c7, kt_c5, kt_c6, kt_c512, kt_c10, kt_c10000] at d_49
            refine lv_iconst (v := 1) hx hb dX6_isFoe_52 (by decide) ?_
            refine lv_goto (tgt := 57) hx hb dX6_isFoe_53 (by decide) ?_
            exact kt_rz () hx hb hr hlk hS dX6_isFoe_57 hP hD (by show 0 ≤ (1 : Int32).toInt ∧ (1 : Int32).toInt ≤ 1; decide) rfl
    · have d_12 := c_12
      simp only [kt_lt, kt_le, kt_eq, kt_c0, kt_c1, kt_c2, kt_c3, kt_c4, kt_c8, kt_c9, kt_cm1, kt_c81, kt_c40, kt_c7, kt_c5, kt_c6, kt_c512, kt_c10, kt_c10000] at d_12
      refine lv_iconst (v := 0) hx hb dX6_isFoe_15 (by decide) ?_
      exact kt_rz () hx hb hr hlk hS dX6_isFoe_16 hP hD (by show 0 ≤ (0 : Int32).toInt ∧ (0 : Int32).toInt ≤ 1; decide) rfl

theorem iw_X6_isCaught_X6 : ∀ w ∈ wsX60, w ∈ wsX6_isCaught := fun _ h => kt_wp_X6_isCaught__X60 h
theorem iw_X6_isCaught_X1 : ∀ w ∈ wsX10, w ∈ wsX6_isCaught := fun _ h => kt_wp_X6_isCaught__X10 h
set_option maxHeartbeats 4000000 in
set_option maxRecDepth 100000 in
theorem c_X6_isCaught (l : Launch) (D : va_G) (cI cZ cB : ClassId) (sz : Nat) (ru : Nat) (la : Nat) (gr : Nat) (rk : Nat) (rs : Nat) (rt : Nat) (rv : Nat) (tt : Int32) (kg : Int32) (vc : Int32) (lg : Int32) (lh : Int32) (lt : Int32) (lr : Int32) (lc : Int32) (gt : Nat) (gg : Nat) (gn : Nat) (gs : Int32) (gm : Int32) (tg : Nat → Int32) (nb : Nat → Int32) (nw : Nat) (sf : Nat) (sh : Nat) (tu : Int32) (ff : Nat → Int32) (fh : Nat → Int32) (fk : Nat → Int32) (fs : Nat → Int32) (ft : Nat → Int32) (p1 : Int32) (p2 : Int32) (hgs : 0 ≤ gs.toInt ∧ gs.toInt ≤ 81) (hgt : kt_r tg 81 0 2) (hnb : kt_r nb 324 (-1) 80) (htt : 0 ≤ tt.toInt ∧ tt.toInt ≤ 40) (hff : kt_r ff 40 (-1) 80) (hfh : kt_r fh 81 (-1) 39) (hrk : kt_r fk 40 0 4) (hrs : kt_r fs 40 0 1) (hrt : kt_r ft 40 0 1) (hp1 : 0 ≤ p1.toInt ∧ p1.toInt ≤ 39) : kt_Mi l yX6_isCaught wsX6_isCaught { frames := 1, cells := 0, slots := 0, locals := 24 } D (kt_ty cI cZ cB) [.ref ru, .ref nw, .int p1, .int p2] sz [(ru, .inr (6, [.ref la, .ref gr, .ref rk, .ref rs, .ref rt, .int tt, .int kg, .ref rv, .int vc])), (la, .inr (1, [.int lg, .int lh, .int lt, .int lr, .int lc])), (gr, .inr (0, [.ref gt, .ref gg, .ref gn, .int gs, .int gm])), (gt, .inl (cI, 81, .inl tg)), (gn, .inl (cI, 324, .inl nb)), (nw, .inr (8, [.ref sf, .ref sh, .int tu])), (sf, .inl (cI, 40, .inl ff)), (sh, .inl (cI, 81, .inl fh)), (rk, .inl (cI, 40, .inl fk)), (rs, .inl (cI, 40, .inl fs)), (rt, .inl (cZ, 40, .inl ft))] (fun (r : Int32) (u : Unit) => 0 ≤ r.toInt ∧ r.toInt ≤ 1) (fun (u : Unit) => [(ru, .inr (6, [.ref la, .ref gr, .ref rk, .ref rs, .ref rt, .int tt, .int kg, .ref rv, .int vc])), (la, .inr (1, [.int lg, .int lh, .int lt, .int lr, .int lc])), (gr, .inr (0, [.ref gt, .ref gg, .ref gn, .int gs, .int gm])), (gt, .inl (cI, 81, .inl tg)), (gn, .inl (cI, 324, .inl nb)), (nw, .inr (8, [.ref sf, .ref sh, .int tu])), (sf, .inl (cI, 40, .inl ff)), (sh, .inl (cI, 81, .inl fh)), (rk, .inl (cI, 40, .inl fk)), (rs, .inl (cI, 40, .inl fs)), (rt, .inl (cZ, 40, .inl ft))]) 0 0 := by
  refine kt_Mi.of (cc := cX6_isCaught) (maxL := 7) (ret := some .boolean) (by decide) rfl (Nat.le_of_ble_eq_true rfl) ?_
  intro p e s m below meth c A ls H hAt hP hD hS hl
  obtain ⟨hx, hb, hr, hml, hown, hts, hN, hK, hlk, hnm, hA⟩ := hAt
  have hl : lv_has ls 7 [(0, .ref ru), (1, .ref nw), (2, .int p1), (3, .int p2)] := hl
  have hown : s.vm.findClass RX6 = some m.cls := hown
  refine lv_aload_n hx hb dX6_isCaught_0 rfl (lv_at hl 0 rfl) ?_
  refine va_get (D := D) (ci := 6) (C := RX6) (T := TX6) (N := 9) hx hb hts iw_X6_isCaught_X6 hown hK hP 0 rfl rfl 2 (by decide) (hts (.fieldLink RX6 18 "KingTable$Rules" "kinds" "[I") (kt_wp_X6_isCaught__X6_isCaught_r1 kt_wm0)) (fun _ h9 => h9) rfl dX6_isCaught_1 ?_
  refine lv_iload_n hx hb dX6_isCaught_4 rfl (lv_at hl 2 rfl) ?_
  have hi_1 : vp_in p1 40 := by exact kt_in (by omega) (by omega)
  refine va_iald hx hb hK hP 8 0 rfl rfl hi_1 dX6_isCaught_5 ?_
  refine lv_topi (fun a_5 ea_5 => ?_)
  have ra_5 := hrk.get hi_1
  rw [← ea_5] at ra_5
  refine lv_iconst (v := 4) hx hb dX6_isCaught_6 (by decide) ?_
  refine kt_join (σ := Int32) 34 7 (fun u => [(ru, .inr (6, [.ref la, .ref gr, .ref rk, .ref rs, .ref rt, .int tt, .int kg, .ref rv, .int vc])), (la, .inr (1, [.int lg, .int lh, .int lt, .int lr, .int lc])), (gr, .inr (0, [.ref gt, .ref gg, .ref gn, .int gs, .int gm])), (gt, .inl (cI, 81, .inl tg)), (gn, .inl (cI, 324, .inl nb)), (nw, .inr (8, [.ref sf, .ref sh, .int tu])), (sf, .inl (cI, 40, .inl ff)), (sh, .inl (cI, 81, .inl fh)), (rk, .inl (cI, 40, .inl fk)), (rs, .inl (cI, 40, .inl fs)), (rt, .inl (cZ, 40, .inl ft))]) (fun u => [(0, .ref ru), (1, .ref nw), (2, .int p1), (3, .int p2)]) (fun u => [.int u]) (fun u => True) (D := D) (A := A) (H0 := s.heap) (fun u hI H locs hP hD hS ls hl => ?_) (fun j_34 => ?_)
  · obtain ⟨v, rfl⟩ : ∃ z, z = u := ⟨_, rfl⟩
    have hP : va_P D vwCl [(ru, .inr (6, [.ref la, .ref gr, .ref rk, .ref rs, .ref rt, .int tt, .int kg, .ref rv, .int vc])), (la, .inr (1, [.int lg, .int lh, .int lt, .int lr, .int lc])), (gr, .inr (0, [.ref gt, .ref gg, .ref gn, .int gs, .int gm])), (gt, .inl (cI, 81, .inl tg)), (gn, .inl (cI, 324, .inl nb)), (nw, .inr (8, [.ref sf, .ref sh, .int tu])), (sf, .inl (cI, 40, .inl ff)), (sh, .inl (cI, 81, .inl fh)), (rk, .inl (cI, 40, .inl fk)), (rs, .inl (cI, 40, .inl fs)), (rt, .inl (cZ, 40, .inl ft))] H := hP
    have hD : va_D A [(ru, .inr (6, [.ref la, .ref gr, .ref rk, .ref rs, .ref rt, .int tt, .int kg, .ref rv, .int vc])), (la, .inr (1, [.int lg, .int lh, .int lt, .int lr, .int lc])), (gr, .inr (0, [.ref gt, .ref gg, .ref gn, .int gs, .int gm])), (gt, .inl (cI, 81, .inl tg)), (gn, .inl (cI, 324, .inl nb)), (nw, .inr (8, [.ref sf, .ref sh, .int tu])), (sf, .inl (cI, 40, .inl ff)), (sh, .inl (cI, 81, .inl fh)), (rk, .inl (cI, 40, .inl fk)), (rs, .inl (cI, 40, .inl fs)), (rt, .inl (cZ, 40, .inl ft))] := hD
    have hl : lv_has ls 7 [(0, .ref ru), (1, .ref nw), (2, .int p1), (3, .int p2)] := hl
    refine lv_istore (lv' := [(4, .int v), (0, .ref ru), (1, .ref nw), (2, .int p1), (3, .int p2)]) hx hb dX6_isCaught_34 hl (by decide) rfl (fun ls hl => ?_)
    refine lv_aload_n hx hb dX6_isCaught_36 rfl (lv_at hl 2 rfl) ?_
    refine lv_iload_n hx hb dX6_isCaught_37 rfl (lv_at hl 3 rfl) ?_
    refine kt_pi (wc := [(nw, .inr (8, [.ref sf, .ref sh, .int tu])), (sf, .inl (cI, 40, .inl ff))]) [5, 6] hP hD hS hA rfl (by decide) (fun hPc hDc => va_runV (As := [.int p1]) (rest := []) ⟨hx, hb, hml, hown, hts⟩ (c_X8_fieldOf l D cI cZ cB H.size nw sf sh tu ff p1 (by first | assumption | omega | rfl | decide)) (cwV 1 hts gX6_isCaught_X8_fieldOf rfl rfl rfl (by decide +kernel) ⟨Nat.le_of_ble_eq_true rfl, Nat.le_of_ble_eq_true rfl⟩) (kt_preV hN hK hPc hDc 0 (ci := 8) (q := (RX8, TX8, 3)) rfl rfl) rfl rfl hl.1 rfl (lv_room (Nat.le_of_ble_eq_true rfl)) dX6_isCaught_38 ⟨Nat.le_of_ble_eq_true rfl, Nat.le_of_ble_eq_true rfl⟩) (fun r_38 _ H locs hw_38 hP hS => ?_)
    refine lv_istore (lv' := [(5, .int r_38), (4, .int v), (0, .ref ru), (1, .ref nw), (2, .int p1), (3, .int p2)]) hx hb dX6_isCaught_41 hl (by decide) rfl (fun ls hl => ?_)
    refine lv_iconst (v := 0) hx hb dX6_isCaught_43 (by decide) ?_
    refine lv_istore (lv' := [(6, .int 0), (5, .int r_38), (4, .int v), (0, .ref ru), (1, .ref nw), (2, .int p1), (3, .int p2)]) hx hb dX6_isCaught_44 hl (by decide) rfl (fun ls hl => ?_)
    refine kt_loop (σ := Nat) 46 7 (fun u => [(ru, .inr (6, [.ref la, .ref gr, .ref rk, .ref rs, .ref rt, .int tt, .int kg, .ref rv, .int vc])), (la, .inr (1, [.int lg, .int lh, .int lt, .int lr, .int lc])), (gr, .inr (0, [.ref gt, .ref gg, .ref gn, .int gs, .int gm])), (gt, .inl (cI, 81, .inl tg)), (gn, .inl (cI, 324, .inl nb)), (nw, .inr (8, [.ref sf, .ref sh, .int tu])), (sf, .inl (cI, 40, .inl ff)), (sh, .inl (cI, 81, .inl fh)), (rk, .inl (cI, 40, .inl fk)), (rs, .inl (cI, 40, .inl fs)), (rt, .inl (cZ, 40, .inl ft))]) (fun u => [(6, .int (nI u)), (5, .int r_38), (4, .int v), (0, .ref ru), (1, .ref nw), (2, .int p1), (3, .int p2)]) (fun n u => u ≤ 4 ∧ 4 < u + n) (fun u h => by omega) (fun n_46 ih_46 u hI H locs hP hD hS ls hl => ?_) (5) 0 (by show 0 ≤ 4 ∧ 4 < 0 + 5; exact ⟨by decide, by decide⟩) hP hD hS (lv_sub hl [0, 1, 2, 3, 4, 5, 6] rfl)
    obtain ⟨k, rfl⟩ : ∃ z, z = u := ⟨_, rfl⟩
    have hP : va_P D vwCl [(ru, .inr (6, [.ref la, .ref gr, .ref rk, .ref rs, .ref rt, .int tt, .int kg, .ref rv, .int vc])), (la, .inr (1, [.int lg, .int lh, .int lt, .int lr, .int lc])), (gr, .inr (0, [.ref gt, .ref gg, .ref gn, .int gs, .int gm])), (gt, .inl (cI, 81, .inl tg)), (gn, .inl (cI, 324, .inl nb)), (nw, .inr (8, [.ref sf, .ref sh, .int tu])), (sf, .inl (cI, 40, .inl ff)), (sh, .inl (cI, 81, .inl fh)), (rk, .inl (cI, 40, .inl fk)), (rs, .inl (cI, 40, .inl fs)), (rt, .inl (cZ, 40, .inl ft))] H := hP
    have hD : va_D A [(ru, .inr (6, [.ref la, .ref gr, .ref rk, .ref rs, .ref rt, .int tt, .int kg, .ref rv, .int vc])), (la, .inr (1, [.int lg, .int lh, .int lt, .int lr, .int lc])), (gr, .inr (0, [.ref gt, .ref gg, .ref gn, .int gs, .int gm])), (gt, .inl (cI, 81, .inl tg)), (gn, .inl (cI, 324, .inl nb)), (nw, .inr (8, [.ref sf, .ref sh, .int tu])), (sf, .inl (cI, 40, .inl ff)), (sh, .inl (cI, 81, .inl fh)), (rk, .inl (cI, 40, .inl fk)), (rs, .inl (cI, 40, .inl fs)), (rt, .inl (cZ, 40, .inl ft))] := hD
    have hl : lv_has ls 7 [(6, .int (nI k)), (5, .int r_38), (4, .int v), (0, .ref ru), (1, .ref nw), (2, .int p1), (3, .int p2)] := hl
    have hI : k ≤ 4 ∧ 4 < k + (n_46 + 1) := hI
    have hk0 := kt_nI (n := k) (by omega)
    refine lv_iload hx hb dX6_isCaught_46 (lv_at hl 0 rfl) ?_
    refine lv_iconst (v := 4) hx hb dX6_isCaught_48 (by decide) ?_
    refine lv_icmp_ge (tgt := 98) hx hb dX6_isCaught_49 (by decide) (fun c_49 => ?_) (fun c_49 => ?_)
    · have d_49 := c_49
      simp only [kt_lt, kt_le, kt_eq, kt_c0, kt_c1, kt_c2, kt_c3, kt_c4, kt_c8, kt_c9, kt_cm1, kt_c81, kt_c40, kt_c7, kt_c5, kt_c6, kt_c512, kt_c10, kt_c10000] at d_49
      refine lv_iconst (v := 1) hx hb dX6_isCaught_98 (by decide) ?_
      exact kt_rz () hx hb hr hlk hS dX6_isCaught_99 hP hD (by show 0 ≤ (1 : Int32).toInt ∧ (1 : Int32).toInt ≤ 1; decide) rfl
    · have d_49 := c_49
      simp only [kt_lt, kt_le, kt_eq, kt_c0, kt_c1, kt_c2, kt_c3, kt_c4, kt_c8, kt_c9, kt_cm1, kt_c81, kt_c40, kt_c7, kt_c5, kt_c6, kt_c512, kt_c10, kt_c10000] at d_49
      refine lv_iload hx hb dX6_isCaught_52 (lv_at hl 2 rfl) ?_
      refine lv_if_ne (tgt := 63) hx hb dX6_isCaught_54 (by decide) (fun c_54 => ?_) (fun c_54 => ?_)
      · have d_54 := c_54
        simp only [kt_lt, kt_le, kt_eq, kt_c0, kt_c1, kt_c2, kt_c3, kt_c4, kt_c8, kt_c9, kt_cm1, kt_c81, kt_c40, kt_c7, kt_c5, kt_c6, kt_c512, kt_c10, kt_c10000] at d_54
        refine lv_aload_n hx hb dX6_isCaught_63 rfl (lv_at hl 3 rfl) ?_
        refine lv_aload_n hx hb dX6_isCaught_64 rfl (lv_at hl 4 rfl) ?_
        refine lv_aload_n hx hb dX6_isCaught_65 rfl (lv_at hl 3 rfl) ?_
        refine va_get (D := D) (ci := 6) (C := RX6) (T := TX6) (N := 9) hx hb hts iw_X6_isCaught_X6 hown hK hP 0 rfl rfl 1 (by decide) (hts (.fieldLink RX6 12 "KingTable$Rules" "ground" "LKingTable$Ground;") (kt_wp_X6_isCaught__X6_isCaught_r1 kt_wm3)) (fun _ h9 => h9) rfl dX6_isCaught_66 ?_
        refine lv_iload hx hb dX6_isCaught_69 (lv_at hl 1 rfl) ?_
        refine lv_iload hx hb dX6_isCaught_71 (lv_at hl 0 rfl) ?_
        refine kt_pi (wc := [(gr, .inr (0, [.ref gt, .ref gg, .ref gn, .int gs, .int gm])), (gn, .inl (cI, 324, .inl nb))]) [2, 4] hP hD hS hA rfl (by decide) (fun hPc hDc => va_runV (As := [.int r_38, .int (nI k)]) (rest := [.ref nw, .ref ru]) ⟨hx, hb, hml, hown, hts⟩ (c_X0_beside l D cI cZ cB H.size gr gt gg gn gs gm nb r_38 (nI k) (by first | assumption | omega | rfl | decide) (by first | assumption | omega | rfl | decide)) (cwV 2 hts gX6_isCaught_X0_beside rfl rfl rfl (by decide +kernel) ⟨Nat.le_of_ble_eq_true rfl, Nat.le_of_ble_eq_true rfl⟩) (kt_preV hN hK hPc hDc 0 (ci := 0) (q := (RX0, TX0, 5)) rfl rfl) rfl rfl hl.1 rfl (lv_room (Nat.le_of_ble_eq_true rfl)) dX6_isCaught_73 ⟨Nat.le_of_ble_eq_true rfl, Nat.le_of_ble_eq_true rfl⟩) (fun r_73 _ H locs hw_73 hP hS => ?_)
        refine lv_iconst (v := 1) hx hb dX6_isCaught_76 (by decide) ?_
        refine lv_aload_n hx hb dX6_isCaught_77 rfl (lv_at hl 3 rfl) ?_
        refine va_get (D := D) (ci := 6) (C := RX6) (T := TX6) (N := 9) hx hb hts iw_X6_isCaught_X6 hown hK hP 0 rfl rfl 3 (by decide) (hts (.fieldLink RX6 22 "KingTable$Rules" "sides" "[I") (kt_wp_X6_isCaught__X6_isCaught_r1 kt_wm4)) (fun _ h9 => h9) rfl dX6_isCaught_78 ?_
        refine lv_iload_n hx hb dX6_isCaught_81 rfl (lv_at hl 5 rfl) ?_
        have hi_2 : vp_in p1 40 := by exact kt_in (by omega) (by omega)
        refine va_iald hx hb hK hP 9 0 rfl rfl hi_2 dX6_isCaught_82 ?_
        refine lv_topi (fun a_82 ea_82 => ?_)
        have ra_82 := hrs.get hi_2
        rw [← ea_82] at ra_82
        refine lv_isub hx hb dX6_isCaught_83 ?_
        refine lv_topi (fun t_83 et_83 => ?_)
        obtain ⟨k_83, hk_83, hm_83, hM_83⟩ := kt_subk et_83
        try simp only [kt_c0, kt_c1, kt_c2, kt_c3, kt_c4, kt_c8, kt_c9, kt_cm1, kt_c81, kt_c40, kt_c7, kt_c5, kt_c6, kt_c512, kt_c10, kt_c10000] at hk_83
        refine kt_pi (wc := [(ru, .inr (6, [.ref la, .ref gr, .ref rk, .ref rs, .ref rt, .int tt, .int kg, .ref rv, .int vc])), (gr, .inr (0, [.ref gt, .ref gg, .ref gn, .int gs, .int gm])), (gt, .inl (cI, 81, .inl tg)), (nw, .inr (8, [.ref sf, .ref sh, .int tu])), (sh, .inl (cI, 81, .inl fh)), (rs, .inl (cI, 40, .inl fs)), (rt, .inl (cZ, 40, .inl ft))]) [0, 2, 3, 5, 7, 9, 10] hP hD hS hA rfl (by decide) (fun hPc hDc => va_runV (As := [.ref nw, .int r_73, .int t_83]) (rest := []) ⟨hx, hb, hml, hown, hts⟩ (c_X6_isFoe l D cI cZ cB H.size ru la gr rk rs rt rv tt kg vc gt gg gn gs gm tg nw sf sh tu fh fs ft r_73 t_83 (by first | assumption | omega | rfl | decide) (by first | assumption | omega | rfl | decide) (by first | assumption | omega | rfl | decide) (by first | assumption | omega | rfl | decide) (by first | assumption | omega | rfl | decide) (by first | assumption | omega | rfl | decide)) (cwV 3 hts gX6_isCaught_X6_isFoe rfl rfl rfl (by decide +kernel) ⟨Nat.le_of_ble_eq_true rfl, Nat.le_of_ble_eq_true rfl⟩) (kt_preV hN hK hPc hDc 0 (ci := 6) (q := (RX6, TX6, 9)) rfl rfl) rfl rfl hl.1 rfl (lv_room (Nat.le_of_ble_eq_true rfl)) dX6_isCaught_84 ⟨Nat.le_of_ble_eq_true rfl, Nat.le_of_ble_eq_true rfl⟩) (fun r_84 _ H locs hw_84 hP hS => ?_)
        refine lv_if_ne (tgt := 92) hx hb dX6_isCaught_87 (by decide) (fun c_87 => ?_) (fun c_87 => ?_)
        · have d_87 := c_87
          simp only [kt_lt, kt_le, kt_eq, kt_c0, kt_c1, kt_c2, kt_c3, kt_c4, kt_c8, kt_c9, kt_cm1, kt_c81, kt_c40, kt_c7, kt_c5, kt_c6, kt_c512, kt_c10, kt_c10000] at d_87
          refine lv_iinc (v := nI (k + 1)) (lv' := [(6, .int (nI (k + 1))), (5, .int r_38), (4, .int v), (0, .ref ru), (1, .ref nw), (2, .int p1), (3, .int p2)]) hx hb dX6_isCaught_92 hl (k := 0) rfl (nI_1 _) (by decide) rfl (fun ls hl => ?_)
          refine lv_goto (tgt := 46) hx hb dX6_isCaught_95 (by decide) ?_
          exact ih_46 (k + 1) (by show (k + 1) ≤ 4 ∧ 4 < (k + 1) + n_46; omega) H _ hP hD hS ls (lv_sub hl [0, 1, 2, 3, 4, 5, 6] rfl)
        · have d_87 := c_87
          simp only [kt_lt, kt_le, kt_eq, kt_c0, kt_c1, kt_c2, kt_c3, kt_c4, kt_c8, kt_c9, kt_cm1, kt_c81, kt_c40, kt_c7, kt_c5, kt_c6, kt_c512, kt_c10, kt_c10000] at d_87
          refine lv_iconst (v := 0) hx hb dX6_isCaught_90 (by decide) ?_
          exact kt_rz () hx hb hr hlk hS dX6_isCaught_91 hP hD (by show 0 ≤ (0 : Int32).toInt ∧ (0 : Int32).toInt ≤ 1; decide) rfl
      · have d_54 := c_54
        simp only [kt_lt, kt_le, kt_eq, kt_c0, kt_c1, kt_c2, kt_c3, kt_c4, kt_c8, kt_c9, kt_cm1, kt_c81, kt_c40, kt_c7, kt_c5, kt_c6, kt_c512, kt_c10, kt_c10000] at d_54
        refine lv_iload hx hb dX6_isCaught_57 (lv_at hl 0 rfl) ?_
        refine lv_iload_n hx hb dX6_isCaught_59 rfl (lv_at hl 6 rfl) ?_
        refine lv_icmp_ne (tgt := 92) hx hb dX6_isCaught_60 (by decide) (fun c_60 => ?_) (fun c_60 => ?_)
        · have d_60 := c_60
          simp only [kt_lt, kt_le, kt_eq, kt_c0, kt_c1, kt_c2, kt_c3, kt_c4, kt_c8, kt_c9, kt_cm1, kt_c81, kt_c40, kt_c7, kt_c5, kt_c6, kt_c512, kt_c10, kt_c10000] at d_60
          refine lv_iinc (v := nI (k + 1)) (lv' := [(6, .int (nI (k + 1))), (5, .int r_38), (4, .int v), (0, .ref ru), (1, .ref nw), (2, .int p1), (3, .int p2)]) hx hb dX6_isCaught_92 hl (k := 0) rfl (nI_1 _) (by decide) rfl (fun ls hl => ?_)
          refine lv_goto (tgt := 46) hx hb dX6_isCaught_95 (by decide) ?_
          exact ih_46 (k + 1) (by show (k + 1) ≤ 4 ∧ 4 < (k + 1) + n_46; omega) H _ hP hD hS ls (lv_sub hl [0, 1, 2, 3, 4, 5, 6] rfl)
        · have d_60 := c_60
          simp only [kt_lt, kt_le, kt_eq, kt_c0, kt_c1, kt_c2, kt_c3, kt_c4, kt_c8, kt_c9, kt_cm1, kt_c81, kt_c40, kt_c7, kt_c5, kt_c6, kt_c512, kt_c10, kt_c10000] at d_60
          refine lv_aload_n hx hb dX6_isCaught_63 rfl (lv_at hl 3 rfl) ?_
          refine lv_aload_n hx hb dX6_isCaught_64 rfl (lv_at hl 4 rfl) ?_
          refine lv_aload_n hx hb dX6_isCaught_65 rfl (lv_at hl 3 rfl) ?_
          refine va_get (D := D) (ci := 6) (C := RX6) (T := TX6) (N := 9) hx hb hts iw_X6_isCaught_X6 hown hK hP 0 rfl rfl 1 (by decide) (hts (.fieldLink RX6 12 "KingTable$Rules" "ground" "LKingTable$Ground;") (kt_wp_X6_isCaught__X6_isCaught_r1 kt_wm3)) (fun _ h9 => h9) rfl dX6_isCaught_66 ?_
          refine lv_iload hx hb dX6_isCaught_69 (lv_at hl 1 rfl) ?_
          refine lv_iload hx hb dX6_isCaught_71 (lv_at hl 0 rfl) ?_
          refine kt_pi (wc := [(gr, .inr (0, [.ref gt, .ref gg, .ref gn, .int gs, .int gm])), (gn, .inl (cI, 324, .inl nb))]) [2, 4] hP hD hS hA rfl (by decide) (fun hPc hDc => va_runV (As := [.int r_38, .int (nI k)]) (rest := [.ref nw, .ref ru]) ⟨hx, hb, hml, hown, hts⟩ (c_X0_beside l D cI cZ cB H.size gr gt gg gn gs gm nb r_38 (nI k) (by first | assumption | omega | rfl | decide) (by first | assumption | omega | rfl | decide)) (cwV 2 hts gX6_isCaught_X0_beside rfl rfl rfl (by decide +kernel) ⟨Nat.le_of_ble_eq_true rfl, Nat.le_of_ble_eq_true rfl⟩) (kt_preV hN hK hPc hDc 0 (ci := 0) (q := (RX0, TX0, 5)) rfl rfl) rfl rfl hl.1 rfl (lv_room (Nat.le_of_ble_eq_true rfl)) dX6_isCaught_73 ⟨Nat.le_of_ble_eq_true rfl, Nat.le_of_ble_eq_true rfl⟩) (fun r_73 _ H locs hw_73 hP hS => ?_)
          refine lv_iconst (v := 1) hx hb dX6_isCaught_76 (by decide) ?_
          refine lv_aload_n hx hb dX6_isCaught_77 rfl (lv_at hl 3 rfl) ?_
          refine va_get (D := D) (ci := 6) (C := RX6) (T := TX6) (N := 9) hx hb hts iw_X6_isCaught_X6 hown hK hP 0 rfl rfl 3 (by decide) (hts (.fieldLink RX6 22 "KingTable$Rules" "sides" "[I") (kt_wp_X6_isCaught__X6_isCaught_r1 kt_wm4)) (fun _ h9 => h9) rfl dX6_isCaught_78 ?_
          refine lv_iload_n hx hb dX6_isCaught_81 rfl (lv_at hl 5 rfl) ?_
          have hi_3 : vp_in p1 40 := by exact kt_in (by omega) (by omega)
          refine va_iald hx hb hK hP 9 0 rfl rfl hi_3 dX6_isCaught_82 ?_
          refine lv_topi (fun a_82 ea_82 => ?_)
          have ra_82 := hrs.get hi_3
          rw [← ea_82] at ra_82
          refine lv_isub hx hb dX6_isCaught_83 ?_
          refine lv_topi (fun t_83 et_83 => ?_)
          obtain ⟨k_83, hk_83, hm_83, hM_83⟩ := kt_subk et_83
          try simp only [kt_c0, kt_c1, kt_c2, kt_c3, kt_c4, kt_c8, kt_c9, kt_cm1, kt_c81, kt_c40, kt_c7, kt_c5, kt_c6, kt_c512, kt_c10, kt_c10000] at hk_83
          refine kt_pi (wc := [(ru, .inr (6, [.ref la, .ref gr, .ref rk, .ref rs, .ref rt, .int tt, .int kg, .ref rv, .int vc])), (gr, .inr (0, [.ref gt, .ref gg, .ref gn, .int gs, .int gm])), (gt, .inl (cI, 81, .inl tg)), (nw, .inr (8, [.ref sf, .ref sh, .int tu])), (sh, .inl (cI, 81, .inl fh)), (rs, .inl (cI, 40, .inl fs)), (rt, .inl (cZ, 40, .inl ft))]) [0, 2, 3, 5, 7, 9, 10] hP hD hS hA rfl (by decide) (fun hPc hDc => va_runV (As := [.ref nw, .int r_73, .int t_83]) (rest := []) ⟨hx, hb, hml, hown, hts⟩ (c_X6_isFoe l D cI cZ cB H.size ru la gr rk rs rt rv tt kg vc gt gg gn gs gm tg nw sf sh tu fh fs ft r_73 t_83 (by first | assumption | omega | rfl | decide) (by first | assumption | omega | rfl | decide) (by first | assumption | omega | rfl | decide) (by first | assumption | omega | rfl | decide) (by first | assumption | omega | rfl | decide) (by first | assumption | omega | rfl | decide)) (cwV 3 hts gX6_isCaught_X6_isFoe rfl rfl rfl (by decide +kernel) ⟨Nat.le_of_ble_eq_true rfl, Nat.le_of_ble_eq_true rfl⟩) (kt_preV hN hK hPc hDc 0 (ci := 6) (q := (RX6, TX6, 9)) rfl rfl) rfl rfl hl.1 rfl (lv_room (Nat.le_of_ble_eq_true rfl)) dX6_isCaught_84 ⟨Nat.le_of_ble_eq_true rfl, Nat.le_of_ble_eq_true rfl⟩) (fun r_84 _ H locs hw_84 hP hS => ?_)
          refine lv_if_ne (tgt := 92) hx hb dX6_isCaught_87 (by decide) (fun c_87 => ?_) (fun c_87 => ?_)
          · have d_87 := c_87
            simp only [kt_lt, kt_le, kt_eq, kt_c0, kt_c1, kt_c2, kt_c3, kt_c4, kt_c8, kt_c9, kt_cm1, kt_c81, kt_c40, kt_c7, kt_c5, kt_c6, kt_c512, kt_c10, kt_c10000] at d_87
            refine lv_iinc (v := nI (k + 1)) (lv' := [(6, .int (nI (k + 1))), (5, .int r_38), (4, .int v), (0, .ref ru), (1, .ref nw), (2, .int p1), (3, .int p2)]) hx hb dX6_isCaught_92 hl (k := 0) rfl (nI_1 _) (by decide) rfl (fun ls hl => ?_)
            refine lv_goto (tgt := 46) hx hb dX6_isCaught_95 (by decide) ?_
            exact ih_46 (k + 1) (by show (k + 1) ≤ 4 ∧ 4 < (k + 1) + n_46; omega) H _ hP hD hS ls (lv_sub hl [0, 1, 2, 3, 4, 5, 6] rfl)
          · have d_87 := c_87
            simp only [kt_lt, kt_le, kt_eq, kt_c0, kt_c1, kt_c2, kt_c3, kt_c4, kt_c8, kt_c9, kt_cm1, kt_c81, kt_c40, kt_c7, kt_c5, kt_c6, kt_c512, kt_c10, kt_c10000] at d_87
            refine lv_iconst (v := 0) hx hb dX6_isCaught_90 (by decide) ?_
            exact kt_rz () hx hb hr hlk hS dX6_isCaught_91 hP hD (by show 0 ≤ (0 : Int32).toInt ∧ (0 : Int32).toInt ≤ 1; decide) rfl
  refine lv_icmp_eq (tgt := 29) hx hb dX6_isCaught_7 (by decide) (fun c_7 => ?_) (fun c_7 => ?_)
  · have d_7 := c_7
    simp only [kt_lt, kt_le, kt_eq, kt_c0, kt_c1, kt_c2, kt_c3, kt_c4, kt_c8, kt_c9, kt_cm1, kt_c81, kt_c40, kt_c7, kt_c5, kt_c6, kt_c512, kt_c10, kt_c10000] at d_7
    refine lv_iconst (v := 1) hx hb dX6_isCaught_29 (by decide) ?_
    refine lv_goto (tgt := 34) hx hb dX6_isCaught_30 (by decide) ?_
    exact j_34 (1 : Int32) (by trivial) H _ hP hD hS ls (lv_sub hl [0, 1, 2, 3] rfl)
  · have d_7 := c_7
    simp only [kt_lt, kt_le, kt_eq, kt_c0, kt_c1, kt_c2, kt_c3, kt_c4, kt_c8, kt_c9, kt_cm1, kt_c81, kt_c40, kt_c7, kt_c5, kt_c6, kt_c512, kt_c10, kt_c10000] at d_7
    refine lv_iload_n hx hb dX6_isCaught_10 rfl (lv_at hl 2 rfl) ?_
    refine lv_aload_n hx hb dX6_isCaught_11 rfl (lv_at hl 0 rfl) ?_
    refine va_get (D := D) (ci := 6) (C := RX6) (T := TX6) (N := 9) hx hb hts iw_X6_isCaught_X6 hown hK hP 0 rfl rfl 6 (by decide) (hts (.fieldLink RX6 29 "KingTable$Rules" "king" "I") (kt_wp_X6_isCaught__X6_isCaught_r1 kt_wm1)) (fun _ h9 => h9) rfl dX6_isCaught_12 ?_
    refine lv_icmp_ne (tgt := 33) hx hb dX6_isCaught_15 (by decide) (fun c_15 => ?_) (fun c_15 => ?_)
    · have d_15 := c_15
      simp only [kt_lt, kt_le, kt_eq, kt_c0, kt_c1, kt_c2, kt_c3, kt_c4, kt_c8, kt_c9, kt_cm1, kt_c81, kt_c40, kt_c7, kt_c5, kt_c6, kt_c512, kt_c10, kt_c10000] at d_15
      refine lv_iconst (v := 0) hx hb dX6_isCaught_33 (by decide) ?_
      exact j_34 (0 : Int32) (by trivial) H _ hP hD hS ls (lv_sub hl [0, 1, 2, 3] rfl)
    · have d_15 := c_15
      simp only [kt_lt, kt_le, kt_eq, kt_c0, kt_c1, kt_c2, kt_c3, kt_c4, kt_c8, kt_c9, kt_cm1, kt_c81, kt_c40, kt_c7, kt_c5, kt_c6, kt_c512, kt_c10, kt_c10000] at d_15
      refine lv_aload_n hx hb dX6_isCaught_18 rfl (lv_at hl 0 rfl) ?_
      refine va_get (D := D) (ci := 6) (C := RX6) (T := TX6) (N := 9) hx hb hts iw_X6_isCaught_X6 hown hK hP 0 rfl rfl 0 (by decide) (hts (.fieldLink RX6 36 "KingTable$Rules" "laws" "LKingTable$Laws;") (kt_wp_X6_isCaught__X6_isCaught_r1 kt_wm2)) (fun _ h9 => h9) rfl dX6_isCaught_19 ?_
      refine va_getN (D := D) (ci := 1) (C := RX1) (T := TX1) (N := 5) hx hb hts iw_X6_isCaught_X1 hown hK hP 1 rfl rfl 1 (by decide) (va_Nw.use (w := .fieldLinkNest RX6 111 "KingTable$Laws" "hard" "I" "KingTable") rfl (hN _ (by decide +kernel))) (fun _ h9 => h9) rfl dX6_isCaught_22 ?_
      refine lv_iconst (v := 4) hx hb dX6_isCaught_25 (by decide) ?_
      refine lv_icmp_ne (tgt := 33) hx hb dX6_isCaught_26 (by decide) (fun c_26 => ?_) (fun c_26 => ?_)
      · have d_26 := c_26
        simp only [kt_lt, kt_le, kt_eq, kt_c0, kt_c1, kt_c2, kt_c3, kt_c4, kt_c8, kt_c9, kt_cm1, kt_c81, kt_c40, kt_c7, kt_c5, kt_c6, kt_c512, kt_c10, kt_c10000] at d_26
        refine lv_iconst (v := 0) hx hb dX6_isCaught_33 (by decide) ?_
        exact j_34 (0 : Int32) (by trivial) H _ hP hD hS ls (lv_sub hl [0, 1, 2, 3] rfl)
      · have d_26 := c_26
        simp only [kt_lt, kt_le, kt_eq, kt_c0, kt_c1, kt_c2, kt_c3, kt_c4, kt_c8, kt_c9, kt_cm1, kt_c81, kt_c40, kt_c7, kt_c5, kt_c6, kt_c512, kt_c10, kt_c10000] at d_26
        refine lv_iconst (v := 1) hx hb dX6_isCaught_29 (by decide) ?_
        refine lv_goto (tgt := 34) hx hb dX6_isCaught_30 (by decide) ?_
        exact j_34 (1 : Int32) (by trivial) H _ hP hD hS ls (lv_sub hl [0, 1, 2, 3] rfl)

theorem iw_X6_addVictim_X6 : ∀ w ∈ wsX60, w ∈ wsX6_addVictim := fun _ h => kt_wp_X6_addVictim__X60 h
set_option maxHeartbeats 4000000 in
set_option maxRecDepth 100000 in
theorem c_X6_addVictim (l : Launch) (D : va_G) (cI cZ cB : ClassId) (sz : Nat) (ru : Nat) (la : Nat) (gr : Nat) (rk : Nat) (rs : Nat) (rt : Nat) (rv : Nat) (tt : Int32) (kg : Int32) (vc : Int32) (fv : Nat → Int32) (p1 : Int32) (hrv : kt_r fv 4 0 39) (hvc : 0 ≤ vc.toInt ∧ vc.toInt ≤ 4) (hp1 : 0 ≤ p1.toInt ∧ p1.toInt ≤ 39) : kt_Mv l yX6_addVictim wsX6_addVictim { frames := 0, cells := 0, slots := 0, locals := 0 } D (kt_ty cI cZ cB) [.ref ru, .int p1] sz [(ru, .inr (6, [.ref la, .ref gr, .ref rk, .ref rs, .ref rt, .int tt, .int kg, .ref rv, .int vc])), (rv, .inl (cI, 4, .inl fv))] (fun (u : (Nat → Int32) × Int32) => kt_r u.1 4 0 39 ∧ 0 ≤ u.2.toInt ∧ u.2.toInt ≤ 4) (fun (u : (Nat → Int32) × Int32) => [(ru, .inr (6, [.ref la, .ref gr, .ref rk, .ref rs, .ref rt, .int tt, .int kg, .ref rv, .int u.2])), (rv, .inl (cI, 4, .inl u.1))]) 0 0 := by
  refine kt_Mv.of (cc := cX6_addVictim) (maxL := 3) (ret := none) (by decide) rfl (Nat.le_of_ble_eq_true rfl) ?_
  intro p e s m below meth c A ls H hAt hP hD hS hl
  obtain ⟨hx, hb, hr, hml, hown, hts, hN, hK, hlk, hnm, hA⟩ := hAt
  have hl : lv_has ls 3 [(0, .ref ru), (1, .int p1)] := hl
  have hown : s.vm.findClass RX6 = some m.cls := hown
  refine lv_aload_n hx hb dX6_addVictim_0 rfl (lv_at hl 0 rfl) ?_
  refine va_get (D := D) (ci := 6) (C := RX6) (T := TX6) (N := 9) hx hb hts iw_X6_addVictim_X6 hown hK hP 0 rfl rfl 8 (by decide) (hts (.fieldLink RX6 93 "KingTable$Rules" "victimCount" "I") (List.mem_cons_of_mem _ (List.mem_append_left _ (List.Mem.head _)))) (fun _ h9 => h9) rfl dX6_addVictim_1 ?_
  refine lv_istore_n (lv' := [(2, .int vc), (0, .ref ru), (1, .int p1)]) hx hb dX6_addVictim_4 rfl hl (by decide) rfl (fun ls hl => ?_)
  refine lv_iload_n hx hb dX6_addVictim_5 rfl (lv_at hl 0 rfl) ?_
  refine lv_iconst (v := 4) hx hb dX6_addVictim_6 (by decide) ?_
  refine lv_icmp_lt (tgt := 11) hx hb dX6_addVictim_7 (by decide) (fun c_7 => ?_) (fun c_7 => ?_)
  · have d_7 := c_7
    simp only [kt_lt, kt_le, kt_eq, kt_c0, kt_c1, kt_c2, kt_c3, kt_c4, kt_c8, kt_c9, kt_cm1, kt_c81, kt_c40, kt_c7, kt_c5, kt_c6, kt_c512, kt_c10, kt_c10000] at d_7
    refine kt_loop (σ := Int32 × (Nat → Int32)) 11 3 (fun u => [(ru, .inr (6, [.ref la, .ref gr, .ref rk, .ref rs, .ref rt, .int tt, .int kg, .ref rv, .int vc])), (rv, .inl (cI, 4, .inl u.2))]) (fun u => [(2, .int u.1), (0, .ref ru), (1, .int p1)]) (fun n u => 0 ≤ u.1.toInt ∧ u.1.toInt ≤ 3 ∧ u.1.toInt < n ∧ kt_r u.2 4 0 39) (fun u h => by omega) (fun n_11 ih_11 u hI H locs hP hD hS ls hl => ?_) (4) (vc, fv) (by show 0 ≤ vc.toInt ∧ vc.toInt ≤ 3 ∧ vc.toInt < 4 ∧ kt_r fv 4 0 39; exact ⟨by omega, by omega, by omega, hrv⟩) hP hD hS (lv_sub hl [0, 1, 2] rfl)
    obtain ⟨i, g⟩ := u
    have hP : va_P D vwCl [(ru, .inr (6, [.ref la, .ref gr, .ref rk, .ref rs, .ref rt, .int tt, .int kg, .ref rv, .int vc])), (rv, .inl (cI, 4, .inl g))] H := hP
    have hD : va_D A [(ru, .inr (6, [.ref la, .ref gr, .ref rk, .ref rs, .ref rt, .int tt, .int kg, .ref rv, .int vc])), (rv, .inl (cI, 4, .inl g))] := hD
    have hl : lv_has ls 3 [(2, .int i), (0, .ref ru), (1, .int p1)] := hl
    have hI : 0 ≤ i.toInt ∧ i.toInt ≤ 3 ∧ i.toInt < (n_11 + 1) ∧ kt_r g 4 0 39 := hI
    obtain ⟨hi0, hi3, hin, hrv⟩ := hI
    refine lv_iload_n hx hb dX6_addVictim_11 rfl (lv_at hl 0 rfl) ?_
    refine lv_if_le (tgt := 47) hx hb dX6_addVictim_12 (by decide) (fun c_12 => ?_) (fun c_12 => ?_)
    · have d_12 := c_12
      simp only [kt_lt, kt_le, kt_eq, kt_c0, kt_c1, kt_c2, kt_c3, kt_c4, kt_c8, kt_c9, kt_cm1, kt_c81, kt_c40, kt_c7, kt_c5, kt_c6, kt_c512, kt_c10, kt_c10000] at d_12
      refine lv_aload_n hx hb dX6_addVictim_47 rfl (lv_at hl 1 rfl) ?_
      refine va_get (D := D) (ci := 6) (C := RX6) (T := TX6) (N := 9) hx hb hts iw_X6_addVictim_X6 hown hK hP 0 rfl rfl 7 (by decide) (hts (.fieldLink RX6 33 "KingTable$Rules" "victims" "[I") (List.mem_cons_of_mem _ (List.mem_append_left _ (List.mem_cons_of_mem _ (List.Mem.head _))))) (fun _ h9 => h9) rfl dX6_addVictim_48 ?_
      refine lv_iload_n hx hb dX6_addVictim_51 rfl (lv_at hl 0 rfl) ?_
      refine lv_iload_n hx hb dX6_addVictim_52 rfl (lv_at hl 2 rfl) ?_
      have hi_1 : vp_in i 4 := by exact kt_in (by omega) (by omega)
      refine va_iast hx hb hK hP hD hS 1 0 rfl rfl hi_1 dX6_addVictim_53 (fun H locs hP hD hS => ?_)
      have hrv : kt_r (upd g i.toNatClampNeg p1) 4 0 39 := hrv.upd (by omega) (by omega)
      have hP : va_P D vwCl [(ru, .inr (6, [.ref la, .ref gr, .ref rk, .ref rs, .ref rt, .int tt, .int kg, .ref rv, .int vc])), (rv, .inl (cI, 4, .inl (upd g i.toNatClampNeg p1)))] H := hP
      have hD : va_D A [(ru, .inr (6, [.ref la, .ref gr, .ref rk, .ref rs, .ref rt, .int tt, .int kg, .ref rv, .int vc])), (rv, .inl (cI, 4, .inl (upd g i.toNatClampNeg p1)))] := hD
      refine lv_aload_n hx hb dX6_addVictim_54 rfl (lv_at hl 1 rfl) ?_
      refine lv_dup hx hb dX6_addVictim_55 rfl ?_
      refine va_get (D := D) (ci := 6) (C := RX6) (T := TX6) (N := 9) hx hb hts iw_X6_addVictim_X6 hown hK hP 0 rfl rfl 8 (by decide) (hts (.fieldLink RX6 93 "KingTable$Rules" "victimCount" "I") (List.mem_cons_of_mem _ (List.mem_append_left _ (List.Mem.head _)))) (fun _ h9 => h9) rfl dX6_addVictim_56 ?_
      refine lv_iconst (v := 1) hx hb dX6_addVictim_59 (by decide) ?_
      refine lv_iadd hx hb dX6_addVictim_60 ?_
      refine lv_topi (fun t_60 et_60 => ?_)
      obtain ⟨k_60, hk_60, hm_60, hM_60⟩ := kt_addk et_60
      try simp only [kt_c0, kt_c1, kt_c2, kt_c3, kt_c4, kt_c8, kt_c9, kt_cm1, kt_c81, kt_c40, kt_c7, kt_c5, kt_c6, kt_c512, kt_c10, kt_c10000] at hk_60
      refine va_put (D := D) (ci := 6) (v := .int t_60) (ty := .int) (C := RX6) (T := TX6) (N := 9) hx hb hts iw_X6_addVictim_X6 tyX6 tyX6_ok nmX6 hown hK hP hD hS 0 rfl rfl 8 (by decide) (hts (.fieldLink RX6 93 "KingTable$Rules" "victimCount" "I") (List.mem_cons_of_mem _ (List.mem_append_left _ (List.Mem.head _)))) (fun _ h9 => h9) rfl (by decide +kernel) rfl rfl (Nat.le_of_ble_eq_true rfl) dX6_addVictim_61 (fun H locs hP hD hS => ?_)
      have hP : va_P D vwCl [(ru, .inr (6, [.ref la, .ref gr, .ref rk, .ref rs, .ref rt, .int tt, .int kg, .ref rv, .int t_60])), (rv, .inl (cI, 4, .inl (upd g i.toNatClampNeg p1)))] H := hP
      have hD : va_D A [(ru, .inr (6, [.ref la, .ref gr, .ref rk, .ref rs, .ref rt, .int tt, .int kg, .ref rv, .int t_60])), (rv, .inl (cI, 4, .inl (upd g i.toNatClampNeg p1)))] := hD
      exact kt_rv (upd g i.toNatClampNeg p1, t_60) hx hb hr hlk hS dX6_addVictim_64 hP hD (by show kt_r (upd g i.toNatClampNeg p1) 4 0 39 ∧ 0 ≤ t_60.toInt ∧ t_60.toInt ≤ 4; exact ⟨hrv, by omega⟩)
    · have d_12 := c_12
      simp only [kt_lt, kt_le, kt_eq, kt_c0, kt_c1, kt_c2, kt_c3, kt_c4, kt_c8, kt_c9, kt_cm1, kt_c81, kt_c40, kt_c7, kt_c5, kt_c6, kt_c512, kt_c10, kt_c10000] at d_12
      refine lv_aload_n hx hb dX6_addVictim_15 rfl (lv_at hl 1 rfl) ?_
      refine va_get (D := D) (ci := 6) (C := RX6) (T := TX6) (N := 9) hx hb hts iw_X6_addVictim_X6 hown hK hP 0 rfl rfl 7 (by decide) (hts (.fieldLink RX6 33 "KingTable$Rules" "victims" "[I") (List.mem_cons_of_mem _ (List.mem_append_left _ (List.mem_cons_of_mem _ (List.Mem.head _))))) (fun _ h9 => h9) rfl dX6_addVictim_16 ?_
      refine lv_iload_n hx hb dX6_addVictim_19 rfl (lv_at hl 0 rfl) ?_
      refine lv_iconst (v := 1) hx hb dX6_addVictim_20 (by decide) ?_
      refine lv_isub hx hb dX6_addVictim_21 ?_
      refine lv_topi (fun t_21 et_21 => ?_)
      obtain ⟨k_21, hk_21, hm_21, hM_21⟩ := kt_subk et_21
      try simp only [kt_c0, kt_c1, kt_c2, kt_c3, kt_c4, kt_c8, kt_c9, kt_cm1, kt_c81, kt_c40, kt_c7, kt_c5, kt_c6, kt_c512, kt_c10, kt_c10000] at hk_21
      have hi_2 : vp_in t_21 4 := by exact kt_in (by omega) (by omega)
      refine va_iald hx hb hK hP 1 0 rfl rfl hi_2 dX6_addVictim_22 ?_
      refine lv_topi (fun a_22 ea_22 => ?_)
      have ra_22 := hrv.get hi_2
      rw [← ea_22] at ra_22
      refine lv_iload_n hx hb dX6_addVictim_23 rfl (lv_at hl 2 rfl) ?_
      refine lv_icmp_le (tgt := 47) hx hb dX6_addVictim_24 (by decide) (fun c_24 => ?_) (fun c_24 => ?_)
      · have d_24 := c_24
        simp only [kt_lt, kt_le, kt_eq, kt_c0, kt_c1, kt_c2, kt_c3, kt_c4, kt_c8, kt_c9, kt_cm1, kt_c81, kt_c40, kt_c7, kt_c5, kt_c6, kt_c512, kt_c10, kt_c10000] at d_24
        refine lv_aload_n hx hb dX6_addVictim_47 rfl (lv_at hl 1 rfl) ?_
        refine va_get (D := D) (ci := 6) (C := RX6) (T := TX6) (N := 9) hx hb hts iw_X6_addVictim_X6 hown hK hP 0 rfl rfl 7 (by decide) (hts (.fieldLink RX6 33 "KingTable$Rules" "victims" "[I") (List.mem_cons_of_mem _ (List.mem_append_left _ (List.mem_cons_of_mem _ (List.Mem.head _))))) (fun _ h9 => h9) rfl dX6_addVictim_48 ?_
        refine lv_iload_n hx hb dX6_addVictim_51 rfl (lv_at hl 0 rfl) ?_
        refine lv_iload_n hx hb dX6_addVictim_52 rfl (lv_at hl 2 rfl) ?_
        have hi_3 : vp_in i 4 := by exact kt_in (by omega) (by omega)
        refine va_iast hx hb hK hP hD hS 1 0 rfl rfl hi_3 dX6_addVictim_53 (fun H locs hP hD hS => ?_)
        have hrv : kt_r (upd g i.toNatClampNeg p1) 4 0 39 := hrv.upd (by omega) (by omega)
        have hP : va_P D vwCl [(ru, .inr (6, [.ref la, .ref gr, .ref rk, .ref rs, .ref rt, .int tt, .int kg, .ref rv, .int vc])), (rv, .inl (cI, 4, .inl (upd g i.toNatClampNeg p1)))] H := hP
        have hD : va_D A [(ru, .inr (6, [.ref la, .ref gr, .ref rk, .ref rs, .ref rt, .int tt, .int kg, .ref rv, .int vc])), (rv, .inl (cI, 4, .inl (upd g i.toNatClampNeg p1)))] := hD
        refine lv_aload_n hx hb dX6_addVictim_54 rfl (lv_at hl 1 rfl) ?_
        refine lv_dup hx hb dX6_addVictim_55 rfl ?_
        refine va_get (D := D) (ci := 6) (C := RX6) (T := TX6) (N := 9) hx hb hts iw_X6_addVictim_X6 hown hK hP 0 rfl rfl 8 (by decide) (hts (.fieldLink RX6 93 "KingTable$Rules" "victimCount" "I") (List.mem_cons_of_mem _ (List.mem_append_left _ (List.Mem.head _)))) (fun _ h9 => h9) rfl dX6_addVictim_56 ?_
        refine lv_iconst (v := 1) hx hb dX6_addVictim_59 (by decide) ?_
        refine lv_iadd hx hb dX6_addVictim_60 ?_
        refine lv_topi (fun t_60 et_60 => ?_)
        obtain ⟨k_60, hk_60, hm_60, hM_60⟩ := kt_addk et_60
        try simp only [kt_c0, kt_c1, kt_c2, kt_c3, kt_c4, kt_c8, kt_c9, kt_cm1, kt_c81, kt_c40, kt_c7, kt_c5, kt_c6, kt_c512, kt_c10, kt_c10000] at hk_60
        refine va_put (D := D) (ci := 6) (v := .int t_60) (ty := .int) (C := RX6) (T := TX6) (N := 9) hx hb hts iw_X6_addVictim_X6 tyX6 tyX6_ok nmX6 hown hK hP hD hS 0 rfl rfl 8 (by decide) (hts (.fieldLink RX6 93 "KingTable$Rules" "victimCount" "I") (List.mem_cons_of_mem _ (List.mem_append_left _ (List.Mem.head _)))) (fun _ h9 => h9) rfl (by decide +kernel) rfl rfl (Nat.le_of_ble_eq_true rfl) dX6_addVictim_61 (fun H locs hP hD hS => ?_)
        have hP : va_P D vwCl [(ru, .inr (6, [.ref la, .ref gr, .ref rk, .ref rs, .ref rt, .int tt, .int kg, .ref rv, .int t_60])), (rv, .inl (cI, 4, .inl (upd g i.toNatClampNeg p1)))] H := hP
        have hD : va_D A [(ru, .inr (6, [.ref la, .ref gr, .ref rk, .ref rs, .ref rt, .int tt, .int kg, .ref rv, .int t_60])), (rv, .inl (cI, 4, .inl (upd g i.toNatClampNeg p1)))] := hD
        exact kt_rv (upd g i.toNatClampNeg p1, t_60) hx hb hr hlk hS dX6_addVictim_64 hP hD (by show kt_r (upd g i.toNatClampNeg p1) 4 0 39 ∧ 0 ≤ t_60.toInt ∧ t_60.toInt ≤ 4; exact ⟨hrv, by omega⟩)
      · have d_24 := c_24
        simp only [kt_lt, kt_le, kt_eq, kt_c0, kt_c1, kt_c2, kt_c3, kt_c4, kt_c8, kt_c9, kt_cm1, kt_c81, kt_c40, kt_c7, kt_c5, kt_c6, kt_c512, kt_c10, kt_c10000] at d_24
        refine lv_aload_n hx hb dX6_addVictim_27 rfl (lv_at hl 1 rfl) ?_
        refine va_get (D := D) (ci := 6) (C := RX6) (T := TX6) (N := 9) hx hb hts iw_X6_addVictim_X6 hown hK hP 0 rfl rfl 7 (by decide) (hts (.fieldLink RX6 33 "KingTable$Rules" "victims" "[I") (List.mem_cons_of_mem _ (List.mem_append_left _ (List.mem_cons_of_mem _ (List.Mem.head _))))) (fun _ h9 => h9) rfl dX6_addVictim_28 ?_
        refine lv_iload_n hx hb dX6_addVictim_31 rfl (lv_at hl 0 rfl) ?_
        refine lv_aload_n hx hb dX6_addVictim_32 rfl (lv_at hl 1 rfl) ?_
        refine va_get (D := D) (ci := 6) (C := RX6) (T := TX6) (N := 9) hx hb hts iw_X6_addVictim_X6 hown hK hP 0 rfl rfl 7 (by decide) (hts (.fieldLink RX6 33 "KingTable$Rules" "victims" "[I") (List.mem_cons_of_mem _ (List.mem_append_left _ (List.mem_cons_of_mem _ (List.Mem.head _))))) (fun _ h9 => h9) rfl dX6_addVictim_33 ?_
        refine lv_iload_n hx hb dX6_addVictim_36 rfl (lv_at hl 0 rfl) ?_
        refine lv_iconst (v := 1) hx hb dX6_addVictim_37 (by decide) ?_
        refine lv_isub hx hb dX6_addVictim_38 ?_
        refine lv_topi (fun t_38 et_38 => ?_)
        obtain ⟨k_38, hk_38, hm_38, hM_38⟩ := kt_subk et_38
        try simp only [kt_c0, kt_c1, kt_c2, kt_c3, kt_c4, kt_c8, kt_c9, kt_cm1, kt_c81, kt_c40, kt_c7, kt_c5, kt_c6, kt_c512, kt_c10, kt_c10000] at hk_38
        have hi_4 : vp_in t_38 4 := by exact kt_in (by omega) (by omega)
        refine va_iald hx hb hK hP 1 0 rfl rfl hi_4 dX6_addVictim_39 ?_
        refine lv_topi (fun a_39 ea_39 => ?_)
        have ra_39 := hrv.get hi_4
        rw [← ea_39] at ra_39
        have hi_5 : vp_in i 4 := by exact kt_in (by omega) (by omega)
        refine va_iast hx hb hK hP hD hS 1 0 rfl rfl hi_5 dX6_addVictim_40 (fun H locs hP hD hS => ?_)
        have hrv : kt_r (upd g i.toNatClampNeg a_39) 4 0 39 := hrv.upd (by omega) (by omega)
        have hP : va_P D vwCl [(ru, .inr (6, [.ref la, .ref gr, .ref rk, .ref rs, .ref rt, .int tt, .int kg, .ref rv, .int vc])), (rv, .inl (cI, 4, .inl (upd g i.toNatClampNeg a_39)))] H := hP
        have hD : va_D A [(ru, .inr (6, [.ref la, .ref gr, .ref rk, .ref rs, .ref rt, .int tt, .int kg, .ref rv, .int vc])), (rv, .inl (cI, 4, .inl (upd g i.toNatClampNeg a_39)))] := hD
        obtain ⟨t_41, et_41⟩ : ∃ y : Int32, y = i + (-1) := ⟨_, rfl⟩
        obtain ⟨k_41, hk_41, hm_41, hM_41⟩ := kt_addk et_41
        try simp only [kt_c0, kt_c1, kt_c2, kt_c3, kt_c4, kt_c8, kt_c9, kt_cm1, kt_c81, kt_c40, kt_c7, kt_c5, kt_c6, kt_c512, kt_c10, kt_c10000] at hk_41
        refine lv_iinc (v := t_41) (lv' := [(2, .int t_41), (0, .ref ru), (1, .int p1)]) hx hb dX6_addVictim_41 hl (k := 0) rfl (by rw [et_41]; rfl) (by decide) rfl (fun ls hl => ?_)
        refine lv_goto (tgt := 11) hx hb dX6_addVictim_44 (by decide) ?_
        exact ih_11 (t_41, (upd g i.toNatClampNeg a_39)) (by show 0 ≤ t_41.toInt ∧ t_41.toInt ≤ 3 ∧ t_41.toInt < n_11 ∧ kt_r (upd g i.toNatClampNeg a_39) 4 0 39; exact ⟨by omega, by omega, by omega, hrv⟩) H _ hP hD hS ls (lv_sub hl [0, 1, 2] rfl)
  · have d_7 := c_7
    simp only [kt_lt, kt_le, kt_eq, kt_c0, kt_c1, kt_c2, kt_c3, kt_c4, kt_c8, kt_c9, kt_cm1, kt_c81, kt_c40, kt_c7, kt_c5, kt_c6, kt_c512, kt_c10, kt_c10000] at d_7
    exact kt_rv (fv, vc) hx hb hr hlk hS dX6_addVictim_10 hP hD (by show kt_r fv 4 0 39 ∧ 0 ≤ vc.toInt ∧ vc.toInt ≤ 4; exact ⟨hrv, by omega⟩)

theorem iw_X6_findVictims_X6 : ∀ w ∈ wsX60, w ∈ wsX6_findVictims := fun _ h => kt_wp_X6_findVictims__X60 h
set_option maxHeartbeats 4000000 in
set_option maxRecDepth 100000 in
theorem c_X6_findVictims (l : Launch) (D : va_G) (cI cZ cB : ClassId) (sz : Nat) (ru : Nat) (la : Nat) (gr : Nat) (rk : Nat) (rs : Nat) (rt : Nat) (rv : Nat) (tt : Int32) (kg : Int32) (vc : Int32) (lg : Int32) (lh : Int32) (lt : Int32) (lr : Int32) (lc : Int32) (gt : Nat) (gg : Nat) (gn : Nat) (gs : Int32) (gm : Int32) (tg : Nat → Int32) (nb : Nat → Int32) (nw : Nat) (sf : Nat) (sh : Nat) (tu : Int32) (ff : Nat → Int32) (fh : Nat → Int32) (fk : Nat → Int32) (fs : Nat → Int32) (ft : Nat → Int32) (fv : Nat → Int32) (p1 : Int32) (p2 : Int32) (hgs : 0 ≤ gs.toInt ∧ gs.toInt ≤ 81) (hgt : kt_r tg 81 0 2) (hnb : kt_r nb 324 (-1) 80) (hlr : 0 ≤ lr.toInt ∧ lr.toInt ≤ 8) (htt : 0 ≤ tt.toInt ∧ tt.toInt ≤ 40) (hkg : -1 ≤ kg.toInt ∧ kg.toInt ≤ 39) (hvc : 0 ≤ vc.toInt ∧ vc.toInt ≤ 4) (hff : kt_r ff 40 (-1) 80) (hfh : kt_r fh 81 (-1) 39) (htu : 0 ≤ tu.toInt ∧ tu.toInt ≤ 1) (hrk : kt_r fk 40 0 4) (hrs : kt_r fs 40 0 1) (hrt : kt_r ft 40 0 1) (hrv : kt_r fv 4 0 39) (hp2 : -1 ≤ p2.toInt ∧ p2.toInt ≤ 80) : kt_Mi l yX6_findVictims wsX6_findVictims { frames := 2, cells := 0, slots := 0, locals := 50 } D (kt_ty cI cZ cB) [.ref ru, .ref nw, .int p1, .int p2] sz [(ru, .inr (6, [.ref la, .ref gr, .ref rk, .ref rs, .ref rt, .int tt, .int kg, .ref rv, .int vc])), (la, .inr (1, [.int lg, .int lh, .int lt, .int lr, .int lc])), (gr, .inr (0, [.ref gt, .ref gg, .ref gn, .int gs, .int gm])), (gt, .inl (cI, 81, .inl tg)), (gn, .inl (cI, 324, .inl nb)), (nw, .inr (8, [.ref sf, .ref sh, .int tu])), (sf, .inl (cI, 40, .inl ff)), (sh, .inl (cI, 81, .inl fh)), (rk, .inl (cI, 40, .inl fk)), (rs, .inl (cI, 40, .inl fs)), (rt, .inl (cZ, 40, .inl ft)), (rv, .inl (cI, 4, .inl fv))] (fun (r : Int32) (u : (Nat → Int32) × (Nat → Int32) × (Nat → Int32) × Int32) => (0 ≤ r.toInt ∧ r.toInt ≤ 4) ∧ kt_r u.1 40 (-1) 80 ∧ kt_r u.2.1 81 (-1) 39 ∧ kt_r u.2.2.1 4 0 39 ∧ 0 ≤ u.2.2.2.toInt ∧ u.2.2.2.toInt ≤ 4) (fun (u : (Nat → Int32) × (Nat → Int32) × (Nat → Int32) × Int32) => [(ru, .inr (6, [.ref la, .ref gr, .ref rk, .ref rs, .ref rt, .int tt, .int kg, .ref rv, .int u.2.2.2])), (la, .inr (1, [.int lg, .int lh, .int lt, .int lr, .int lc])), (gr, .inr (0, [.ref gt, .ref gg, .ref gn, .int gs, .int gm])), (gt, .inl (cI, 81, .inl tg)), (gn, .inl (cI, 324, .inl nb)), (nw, .inr (8, [.ref sf, .ref sh, .int tu])), (sf, .inl (cI, 40, .inl u.1)), (sh, .inl (cI, 81, .inl u.2.1)), (rk, .inl (cI, 40, .inl fk)), (rs, .inl (cI, 40, .inl fs)), (rt, .inl (cZ, 40, .inl ft)), (rv, .inl (cI, 4, .inl u.2.2.1))]) 0 0 := by
  refine kt_Mi.of (cc := cX6_findVictims) (maxL := 8) (ret := some .int) (by decide) rfl (Nat.le_of_ble_eq_true rfl) ?_
  intro p e s m below meth c A ls H hAt hP hD hS hl
  obtain ⟨hx, hb, hr, hml, hown, hts, hN, hK, hlk, hnm, hA⟩ := hAt
  have hl : lv_has ls 8 [(0, .ref ru), (1, .ref nw), (2, .int p1), (3, .int p2)] := hl
  have hown : s.vm.findClass RX6 = some m.cls := hown
  refine lv_aload_n hx hb dX6_findVictims_0 rfl (lv_at hl 0 rfl) ?_
  refine lv_iconst (v := 0) hx hb dX6_findVictims_1 (by decide) ?_
  refine va_put (D := D) (ci := 6) (v := .int 0) (ty := .int) (C := RX6) (T := TX6) (N := 9) hx hb hts iw_X6_findVictims_X6 tyX6 tyX6_ok nmX6 hown hK hP hD hS 0 rfl rfl 8 (by decide) (hts (.fieldLink RX6 93 "KingTable$Rules" "victimCount" "I") (kt_wp_X6_findVictims__X6_findVictims_r1 kt_wm0)) (fun _ h9 => h9) rfl (by decide +kernel) rfl rfl (Nat.le_of_ble_eq_true rfl) dX6_findVictims_2 (fun H locs hP hD hS => ?_)
  have hP : va_P D vwCl [(ru, .inr (6, [.ref la, .ref gr, .ref rk, .ref rs, .ref rt, .int tt, .int kg, .ref rv, .int 0])), (la, .inr (1, [.int lg, .int lh, .int lt, .int lr, .int lc])), (gr, .inr (0, [.ref gt, .ref gg, .ref gn, .int gs, .int gm])), (gt, .inl (cI, 81, .inl tg)), (gn, .inl (cI, 324, .inl nb)), (nw, .inr (8, [.ref sf, .ref sh, .int tu])), (sf, .inl (cI, 40, .inl ff)), (sh, .inl (cI, 81, .inl fh)), (rk, .inl (cI, 40, .inl fk)), (rs, .inl (cI, 40, .inl fs)), (rt, .inl (cZ, 40, .inl ft)), (rv, .inl (cI, 4, .inl fv))] H := hP
  have hD : va_D A [(ru, .inr (6, [.ref la, .ref gr, .ref rk, .ref rs, .ref rt, .int tt, .int kg, .ref rv, .int 0])), (la, .inr (1, [.int lg, .int lh, .int lt, .int lr, .int lc])), (gr, .inr (0, [.ref gt, .ref gg, .ref gn, .int gs, .int gm])), (gt, .inl (cI, 81, .inl tg)), (gn, .inl (cI, 324, .inl nb)), (nw, .inr (8, [.ref sf, .ref sh, .int tu])), (sf, .inl (cI, 40, .inl ff)), (sh, .inl (cI, 81, .inl fh)), (rk, .inl (cI, 40, .inl fk)), (rs, .inl (cI, 40, .inl fs)), (rt, .inl (cZ, 40, .inl ft)), (rv, .inl (cI, 4, .inl fv))] := hD
  refine lv_aload_n hx hb dX6_findVictims_5 rfl (lv_at hl 0 rfl) ?_
  refine lv_iload_n hx hb dX6_findVictims_6 rfl (lv_at hl 2 rfl) ?_
  refine kt_pi (wc := [(ru, .inr (6, [.ref la, .ref gr, .ref rk, .ref rs, .ref rt, .int tt, .int kg, .ref rv, .int 0]))]) [0] hP hD hS hA rfl (by decide) (fun hPc hDc => va_runV (As := [.int p1]) (rest := []) ⟨hx, hb, hml, hown, hts⟩ (c_X6_isPiece l D cI cZ cB H.size ru la gr rk rs rt rv tt kg 0 p1 ) (cwV 1 hts gX6_findVictims_X6_isPiece rfl rfl rfl (by decide +kernel) ⟨Nat.le_of_ble_eq_true rfl, Nat.le_of_ble_eq_true rfl⟩) (kt_preV hN hK hPc hDc 0 (ci := 6) (q := (RX6, TX6, 9)) rfl rfl) rfl rfl hl.1 rfl (lv_room (Nat.le_of_ble_eq_true rfl)) dX6_findVictims_7 ⟨Nat.le_of_ble_eq_true rfl, Nat.le_of_ble_eq_true rfl⟩) (fun r_7 _ H locs hw_7 hP hS => ?_)
  have hq1 := hw_7
  refine lv_if_eq (tgt := 22) hx hb dX6_findVictims_10 (by decide) (fun c_10 => ?_) (fun c_10 => ?_)
  · have d_10 := c_10
    simp only [kt_lt, kt_le, kt_eq, kt_c0, kt_c1, kt_c2, kt_c3, kt_c4, kt_c8, kt_c9, kt_cm1, kt_c81, kt_c40, kt_c7, kt_c5, kt_c6, kt_c512, kt_c10, kt_c10000] at d_10
    refine lv_iconst (v := 0) hx hb dX6_findVictims_22 (by decide) ?_
    exact kt_ri (ff, fh, fv, 0) hx hb hr hlk hS dX6_findVictims_23 hP hD (by show (0 ≤ (0 : Int32).toInt ∧ (0 : Int32).toInt ≤ 4) ∧ kt_r ff 40 (-1) 80 ∧ kt_r fh 81 (-1) 39 ∧ kt_r fv 4 0 39 ∧ 0 ≤ (0 : Int32).toInt ∧ (0 : Int32).toInt ≤ 4; first | exact ⟨by decide, hff, hfh, hrv, by decide⟩ | exact ⟨by omega, hff, hfh, hrv, by omega⟩)
  · have d_10 := c_10
    simp only [kt_lt, kt_le, kt_eq, kt_c0, kt_c1, kt_c2, kt_c3, kt_c4, kt_c8, kt_c9, kt_cm1, kt_c81, kt_c40, kt_c7, kt_c5, kt_c6, kt_c512, kt_c10, kt_c10000] at d_10
    have hq1 := hq1.t c_10
    refine lv_aload_n hx hb dX6_findVictims_13 rfl (lv_at hl 0 rfl) ?_
    refine va_get (D := D) (ci := 6) (C := RX6) (T := TX6) (N := 9) hx hb hts iw_X6_findVictims_X6 hown hK hP 0 rfl rfl 4 (by decide) (hts (.fieldLink RX6 25 "KingTable$Rules" "takers" "[Z") (kt_wp_X6_findVictims__X6_findVictims_r1 kt_wm1)) (fun _ h9 => h9) rfl dX6_findVictims_14 ?_
    refine lv_iload_n hx hb dX6_findVictims_17 rfl (lv_at hl 2 rfl) ?_
    have hi_1 : vp_in p1 40 := by exact kt_in (by omega) (by omega)
    refine va_zald hx hb hK hP 10 1 rfl rfl hi_1 dX6_findVictims_18 ?_
    refine lv_topi (fun a_18 ea_18 => ?_)
    have ra_18 := hrt.get hi_1
    rw [← ea_18] at ra_18
    refine lv_if_ne (tgt := 24) hx hb dX6_findVictims_19 (by decide) (fun c_19 => ?_) (fun c_19 => ?_)
    · have d_19 := c_19
      simp only [kt_lt, kt_le, kt_eq, kt_c0, kt_c1, kt_c2, kt_c3, kt_c4, kt_c8, kt_c9, kt_cm1, kt_c81, kt_c40, kt_c7, kt_c5, kt_c6, kt_c512, kt_c10, kt_c10000] at d_19
      refine lv_aload_n hx hb dX6_findVictims_24 rfl (lv_at hl 1 rfl) ?_
      refine lv_iload_n hx hb dX6_findVictims_25 rfl (lv_at hl 2 rfl) ?_
      refine kt_pi (wc := [(nw, .inr (8, [.ref sf, .ref sh, .int tu])), (sf, .inl (cI, 40, .inl ff))]) [5, 6] hP hD hS hA rfl (by decide) (fun hPc hDc => va_runV (As := [.int p1]) (rest := []) ⟨hx, hb, hml, hown, hts⟩ (c_X8_fieldOf l D cI cZ cB H.size nw sf sh tu ff p1 (by first | assumption | omega | rfl | decide)) (cwV 1 hts gX6_findVictims_X8_fieldOf rfl rfl rfl (by decide +kernel) ⟨Nat.le_of_ble_eq_true rfl, Nat.le_of_ble_eq_true rfl⟩) (kt_preV hN hK hPc hDc 0 (ci := 8) (q := (RX8, TX8, 3)) rfl rfl) rfl rfl hl.1 rfl (lv_room (Nat.le_of_ble_eq_true rfl)) dX6_findVictims_26 ⟨Nat.le_of_ble_eq_true rfl, Nat.le_of_ble_eq_true rfl⟩) (fun r_26 _ H locs hw_26 hP hS => ?_)
      refine lv_istore (lv' := [(4, .int r_26), (0, .ref ru), (1, .ref nw), (2, .int p1), (3, .int p2)]) hx hb dX6_findVictims_29 hl (by decide) rfl (fun ls hl => ?_)
      refine lv_aload_n hx hb dX6_findVictims_31 rfl (lv_at hl 2 rfl) ?_
      refine lv_iload_n hx hb dX6_findVictims_32 rfl (lv_at hl 3 rfl) ?_
      refine lv_iload_n hx hb dX6_findVictims_33 rfl (lv_at hl 4 rfl) ?_
      refine kt_bv (wc := [(nw, .inr (8, [.ref sf, .ref sh, .int tu])), (sf, .inl (cI, 40, .inl ff)), (sh, .inl (cI, 81, .inl fh))]) (wr := [(ru, .inr (6, [.ref la, .ref gr, .ref rk, .ref rs, .ref rt, .int tt, .int kg, .ref rv, .int 0])), (la, .inr (1, [.int lg, .int lh, .int lt, .int lr, .int lc])), (gr, .inr (0, [.ref gt, .ref gg, .ref gn, .int gs, .int gm])), (gt, .inl (cI, 81, .inl tg)), (gn, .inl (cI, 324, .inl nb)), (rk, .inl (cI, 40, .inl fk)), (rs, .inl (cI, 40, .inl fs)), (rt, .inl (cZ, 40, .inl ft)), (rv, .inl (cI, 4, .inl fv))]) [5, 6, 7] [0, 1, 2, 3, 4, 8, 9, 10, 11] hP hD hS hA rfl rfl (by decide) (by decide) (by decide) (fun hPc hDc => va_runV (As := [.int p1, .int p2]) (rest := []) ⟨hx, hb, hml, hown, hts⟩ (c_X8_place l D cI cZ cB H.size nw sf sh tu ff fh p1 p2 (by first | assumption | omega | rfl | decide) (by first | assumption | omega | rfl | decide) (by first | assumption | omega | rfl | decide)) (cwV 2 hts gX6_findVictims_X8_place rfl rfl rfl (by decide +kernel) ⟨Nat.le_of_ble_eq_true rfl, Nat.le_of_ble_eq_true rfl⟩) (kt_preV hN hK hPc hDc 0 (ci := 8) (q := (RX8, TX8, 3)) rfl rfl) rfl rfl hl.1 rfl (lv_room (Nat.le_of_ble_eq_true rfl)) dX6_findVictims_34 ⟨Nat.le_of_ble_eq_true rfl, Nat.le_of_ble_eq_true rfl⟩) (fun u_ H locs hw_34 hP hD hS => ?_)
      obtain ⟨ff2_34, fh2_34⟩ := u_
      have hP : va_P D vwCl [(ru, .inr (6, [.ref la, .ref gr, .ref rk, .ref rs, .ref rt, .int tt, .int kg, .ref rv, .int 0])), (la, .inr (1, [.int lg, .int lh, .int lt, .int lr, .int lc])), (gr, .inr (0, [.ref gt, .ref gg, .ref gn, .int gs, .int gm])), (gt, .inl (cI, 81, .inl tg)), (gn, .inl (cI, 324, .inl nb)), (nw, .inr (8, [.ref sf, .ref sh, .int tu])), (sf, .inl (cI, 40, .inl ff2_34)), (sh, .inl (cI, 81, .inl fh2_34)), (rk, .inl (cI, 40, .inl fk)), (rs, .inl (cI, 40, .inl fs)), (rt, .inl (cZ, 40, .inl ft)), (rv, .inl (cI, 4, .inl fv))] H := hP.sub [0, 1, 2, 3, 4, 9, 10, 11, 5, 6, 7, 8] rfl
      have hD : va_D A [(ru, .inr (6, [.ref la, .ref gr, .ref rk, .ref rs, .ref rt, .int tt, .int kg, .ref rv, .int 0])), (la, .inr (1, [.int lg, .int lh, .int lt, .int lr, .int lc])), (gr, .inr (0, [.ref gt, .ref gg, .ref gn, .int gs, .int gm])), (gt, .inl (cI, 81, .inl tg)), (gn, .inl (cI, 324, .inl nb)), (nw, .inr (8, [.ref sf, .ref sh, .int tu])), (sf, .inl (cI, 40, .inl ff2_34)), (sh, .inl (cI, 81, .inl fh2_34)), (rk, .inl (cI, 40, .inl fk)), (rs, .inl (cI, 40, .inl fs)), (rt, .inl (cZ, 40, .inl ft)), (rv, .inl (cI, 4, .inl fv))] := hD.sub [0, 1, 2, 3, 4, 9, 10, 11, 5, 6, 7, 8] (by decide) rfl
      try dsimp only at hw_34
      obtain ⟨hff, hfh⟩ := hw_34
      refine lv_iconst (v := 0) hx hb dX6_findVictims_37 (by decide) ?_
      refine lv_istore (lv' := [(5, .int 0), (4, .int r_26), (0, .ref ru), (1, .ref nw), (2, .int p1), (3, .int p2)]) hx hb dX6_findVictims_38 hl (by decide) rfl (fun ls hl => ?_)
      refine kt_loop (σ := Nat × (Nat → Int32) × Int32) 40 8 (fun u => [(ru, .inr (6, [.ref la, .ref gr, .ref rk, .ref rs, .ref rt, .int tt, .int kg, .ref rv, .int u.2.2])), (la, .inr (1, [.int lg, .int lh, .int lt, .int lr, .int lc])), (gr, .inr (0, [.ref gt, .ref gg, .ref gn, .int gs, .int gm])), (gt, .inl (cI, 81, .inl tg)), (gn, .inl (cI, 324, .inl nb)), (nw, .inr (8, [.ref sf, .ref sh, .int tu])), (sf, .inl (cI, 40, .inl ff2_34)), (sh, .inl (cI, 81, .inl fh2_34)), (rk, .inl (cI, 40, .inl fk)), (rs, .inl (cI, 40, .inl fs)), (rt, .inl (cZ, 40, .inl ft)), (rv, .inl (cI, 4, .inl u.2.1))]) (fun u => [(5, .int (nI u.1)), (4, .int r_26), (0, .ref ru), (1, .ref nw), (2, .int p1), (3, .int p2)]) (fun n u => (u.1 ≤ 4 ∧ 4 < u.1 + n) ∧ kt_r u.2.1 4 0 39 ∧ 0 ≤ u.2.2.toInt ∧ u.2.2.toInt ≤ 4) (fun u h => by omega) (fun n_40 ih_40 u hI H locs hP hD hS ls hl => ?_) (5) (0, fv, (0 : Int32)) (by show (0 ≤ 4 ∧ 4 < 0 + 5) ∧ kt_r fv 4 0 39 ∧ 0 ≤ (0 : Int32).toInt ∧ (0 : Int32).toInt ≤ 4; exact ⟨by decide, hrv, by decide⟩) hP hD hS (lv_sub hl [0, 1, 2, 3, 4, 5] rfl)
      obtain ⟨k, g, v⟩ := u
      have hP : va_P D vwCl [(ru, .inr (6, [.ref la, .ref gr, .ref rk, .ref rs, .ref rt, .int tt, .int kg, .ref rv, .int v])), (la, .inr (1, [.int lg, .int lh, .int lt, .int lr, .int lc])), (gr, .inr (0, [.ref gt, .ref gg, .ref gn, .int gs, .int gm])), (gt, .inl (cI, 81, .inl tg)), (gn, .inl (cI, 324, .inl nb)), (nw, .inr (8, [.ref sf, .ref sh, .int tu])), (sf, .inl (cI, 40, .inl ff2_34)), (sh, .inl (cI, 81, .inl fh2_34)), (rk, .inl (cI, 40, .inl fk)), (rs, .inl (cI, 40, .inl fs)), (rt, .inl (cZ, 40, .inl ft)), (rv, .inl (cI, 4, .inl g))] H := hP
      have hD : va_D A [(ru, .inr (6, [.ref la, .ref gr, .ref rk, .ref rs, .ref rt, .int tt, .int kg, .ref rv, .int v])), (la, .inr (1, [.int lg, .int lh, .int lt, .int lr, .int lc])), (gr, .inr (0, [.ref gt, .ref gg, .ref gn, .int gs, .int gm])), (gt, .inl (cI, 81, .inl tg)), (gn, .inl (cI, 324, .inl nb)), (nw, .inr (8, [.ref sf, .ref sh, .int tu])), (sf, .inl (cI, 40, .inl ff2_34)), (sh, .inl (cI, 81, .inl fh2_34)), (rk, .inl (cI, 40, .inl fk)), (rs, .inl (cI, 40, .inl fs)), (rt, .inl (cZ, 40, .inl ft)), (rv, .inl (cI, 4, .inl g))] := hD
      have hl : lv_has ls 8 [(5, .int (nI k)), (4, .int r_26), (0, .ref ru), (1, .ref nw), (2, .int p1), (3, .int p2)] := hl
      have hI : (k ≤ 4 ∧ 4 < k + (n_40 + 1)) ∧ kt_r g 4 0 39 ∧ 0 ≤ v.toInt ∧ v.toInt ≤ 4 := hI
      obtain ⟨hkn, hrv, hvc⟩ := hI
      have hk0 := kt_nI (n := k) (by omega)
      refine lv_iload hx hb dX6_findVictims_40 (lv_at hl 0 rfl) ?_
      refine lv_iconst (v := 4) hx hb dX6_findVictims_42 (by decide) ?_
      refine lv_icmp_ge (tgt := 115) hx hb dX6_findVictims_43 (by decide) (fun c_43 => ?_) (fun c_43 => ?_)
      · have d_43 := c_43
        simp only [kt_lt, kt_le, kt_eq, kt_c0, kt_c1, kt_c2, kt_c3, kt_c4, kt_c8, kt_c9, kt_cm1, kt_c81, kt_c40, kt_c7, kt_c5, kt_c6, kt_c512, kt_c10, kt_c10000] at d_43
        refine lv_aload_n hx hb dX6_findVictims_115 rfl (lv_at hl 3 rfl) ?_
        refine lv_iload_n hx hb dX6_findVictims_116 rfl (lv_at hl 4 rfl) ?_
        refine lv_iload hx hb dX6_findVictims_117 (lv_at hl 1 rfl) ?_
        refine kt_bv (wc := [(nw, .inr (8, [.ref sf, .ref sh, .int tu])), (sf, .inl (cI, 40, .inl ff2_34)), (sh, .inl (cI, 81, .inl fh2_34))]) (wr := [(ru, .inr (6, [.ref la, .ref gr, .ref rk, .ref rs, .ref rt, .int tt, .int kg, .ref rv, .int v])), (la, .inr (1, [.int lg, .int lh, .int lt, .int lr, .int lc])), (gr, .inr (0, [.ref gt, .ref gg, .ref gn, .int gs, .int gm])), (gt, .inl (cI, 81, .inl tg)), (gn, .inl (cI, 324, .inl nb)), (rk, .inl (cI, 40, .inl fk)), (rs, .inl (cI, 40, .inl fs)), (rt, .inl (cZ, 40, .inl ft)), (rv, .inl (cI, 4, .inl g))]) [5, 6, 7] [0, 1, 2, 3, 4, 8, 9, 10, 11] hP hD hS hA rfl rfl (by decide) (by decide) (by decide) (fun hPc hDc => va_runV (As := [.int p1, .int r_26]) (rest := []) ⟨hx, hb, hml, hown, hts⟩ (c_X8_place l D cI cZ cB H.size nw sf sh tu ff2_34 fh2_34 p1 r_26 (by first | assumption | omega | rfl | decide) (by first | assumption | omega | rfl | decide) (by first | assumption | omega | rfl | decide)) (cwV 2 hts gX6_findVictims_X8_place rfl rfl rfl (by decide +kernel) ⟨Nat.le_of_ble_eq_true rfl, Nat.le_of_ble_eq_true rfl⟩) (kt_preV hN hK hPc hDc 0 (ci := 8) (q := (RX8, TX8, 3)) rfl rfl) rfl rfl hl.1 rfl (lv_room (Nat.le_of_ble_eq_true rfl)) dX6_findVictims_119 ⟨Nat.le_of_ble_eq_true rfl, Nat.le_of_ble_eq_true rfl⟩) (fun u_ H locs hw_119 hP hD hS => ?_)
        obtain ⟨ff2_119, fh2_119⟩ := u_
        have hP : va_P D vwCl [(ru, .inr (6, [.ref la, .ref gr, .ref rk, .ref rs, .ref rt, .int tt, .int kg, .ref rv, .int v])), (la, .inr (1, [.int lg, .int lh, .int lt, .int lr, .int lc])), (gr, .inr (0, [.ref gt, .ref gg, .ref gn, .int gs, .int gm])), (gt, .inl (cI, 81, .inl tg)), (gn, .inl (cI, 324, .inl nb)), (nw, .inr (8, [.ref sf, .ref sh, .int tu])), (sf, .inl (cI, 40, .inl ff2_119)), (sh, .inl (cI, 81, .inl fh2_119)), (rk, .inl (cI, 40, .inl fk)), (rs, .inl (cI, 40, .inl fs)), (rt, .inl (cZ, 40, .inl ft)), (rv, .inl (cI, 4, .inl g))] H := hP.sub [0, 1, 2, 3, 4, 9, 10, 11, 5, 6, 7, 8] rfl
        have hD : va_D A [(ru, .inr (6, [.ref la, .ref gr, .ref rk, .ref rs, .ref rt, .int tt, .int kg, .ref rv, .int v])), (la, .inr (1, [.int lg, .int lh, .int lt, .int lr, .int lc])), (gr, .inr (0, [.ref gt, .ref gg, .ref gn, .int gs, .int gm])), (gt, .inl (cI, 81, .inl tg)), (gn, .inl (cI, 324, .inl nb)), (nw, .inr (8, [.ref sf, .ref sh, .int tu])), (sf, .inl (cI, 40, .inl ff2_119)), (sh, .inl (cI, 81, .inl fh2_119)), (rk, .inl (cI, 40, .inl fk)), (rs, .inl (cI, 40, .inl fs)), (rt, .inl (cZ, 40, .inl ft)), (rv, .inl (cI, 4, .inl g))] := hD.sub [0, 1, 2, 3, 4, 9, 10, 11, 5, 6, 7, 8] (by decide) rfl
        try dsimp only at hw_119
        obtain ⟨hff, hfh⟩ := hw_119
        refine lv_aload_n hx hb dX6_findVictims_122 rfl (lv_at hl 2 rfl) ?_
        refine va_get (D := D) (ci := 6) (C := RX6) (T := TX6) (N := 9) hx hb hts iw_X6_findVictims_X6 hown hK hP 0 rfl rfl 8 (by decide) (hts (.fieldLink RX6 93 "KingTable$Rules" "victimCount" "I") (kt_wp_X6_findVictims__X6_findVictims_r1 kt_wm0)) (fun _ h9 => h9) rfl dX6_findVictims_123 ?_
        exact kt_ri (ff2_119, fh2_119, g, v) hx hb hr hlk hS dX6_findVictims_126 hP hD (by show (0 ≤ v.toInt ∧ v.toInt ≤ 4) ∧ kt_r ff2_119 40 (-1) 80 ∧ kt_r fh2_119 81 (-1) 39 ∧ kt_r g 4 0 39 ∧ 0 ≤ v.toInt ∧ v.toInt ≤ 4; first | exact ⟨by decide, hff, hfh, hrv, by decide⟩ | exact ⟨by omega, hff, hfh, hrv, by omega⟩)
      · have d_43 := c_43
        simp only [kt_lt, kt_le, kt_eq, kt_c0, kt_c1, kt_c2, kt_c3, kt_c4, kt_c8, kt_c9, kt_cm1, kt_c81, kt_c40, kt_c7, kt_c5, kt_c6, kt_c512, kt_c10, kt_c10000] at d_43
        refine lv_aload_n hx hb dX6_findVictims_46 rfl (lv_at hl 2 rfl) ?_
        refine va_get (D := D) (ci := 6) (C := RX6) (T := TX6) (N := 9) hx hb hts iw_X6_findVictims_X6 hown hK hP 0 rfl rfl 1 (by decide) (hts (.fieldLink RX6 12 "KingTable$Rules" "ground" "LKingTable$Ground;") (kt_wp_X6_findVictims__X6_findVictims_r1 kt_wm2)) (fun _ h9 => h9) rfl dX6_findVictims_47 ?_
        refine lv_iload_n hx hb dX6_findVictims_50 rfl (lv_at hl 5 rfl) ?_
        refine lv_iload hx hb dX6_findVictims_51 (lv_at hl 0 rfl) ?_
        refine kt_pi (wc := [(gr, .inr (0, [.ref gt, .ref gg, .ref gn, .int gs, .int gm])), (gn, .inl (cI, 324, .inl nb))]) [2, 4] hP hD hS hA rfl (by decide) (fun hPc hDc => va_runV (As := [.int p2, .int (nI k)]) (rest := []) ⟨hx, hb, hml, hown, hts⟩ (c_X0_beside l D cI cZ cB H.size gr gt gg gn gs gm nb p2 (nI k) (by first | assumption | omega | rfl | decide) (by first | assumption | omega | rfl | decide)) (cwV 2 hts gX6_findVictims_X0_beside rfl rfl rfl (by decide +kernel) ⟨Nat.le_of_ble_eq_true rfl, Nat.le_of_ble_eq_true rfl⟩) (kt_preV hN hK hPc hDc 0 (ci := 0) (q := (RX0, TX0, 5)) rfl rfl) rfl rfl hl.1 rfl (lv_room (Nat.le_of_ble_eq_true rfl)) dX6_findVictims_53 ⟨Nat.le_of_ble_eq_true rfl, Nat.le_of_ble_eq_true rfl⟩) (fun r_53 _ H locs hw_53 hP hS => ?_)
        refine lv_istore (lv' := [(6, .int r_53), (5, .int (nI k)), (4, .int r_26), (0, .ref ru), (1, .ref nw), (2, .int p1), (3, .int p2)]) hx hb dX6_findVictims_56 hl (by decide) rfl (fun ls hl => ?_)
        refine lv_aload_n hx hb dX6_findVictims_58 rfl (lv_at hl 4 rfl) ?_
        refine lv_iload hx hb dX6_findVictims_59 (lv_at hl 0 rfl) ?_
        refine kt_pi (wc := [(nw, .inr (8, [.ref sf, .ref sh, .int tu])), (sh, .inl (cI, 81, .inl fh2_34))]) [5, 7] hP hD hS hA rfl (by decide) (fun hPc hDc => va_runV (As := [.int r_53]) (rest := []) ⟨hx, hb, hml, hown, hts⟩ (c_X8_holderOf l D cI cZ cB H.size nw sf sh tu fh2_34 r_53 (by first | assumption | omega | rfl | decide)) (cwV 1 hts gX6_findVictims_X8_holderOf rfl rfl rfl (by decide +kernel) ⟨Nat.le_of_ble_eq_true rfl, Nat.le_of_ble_eq_true rfl⟩) (kt_preV hN hK hPc hDc 0 (ci := 8) (q := (RX8, TX8, 3)) rfl rfl) rfl rfl hl.1 rfl (lv_room (Nat.le_of_ble_eq_true rfl)) dX6_findVictims_61 ⟨Nat.le_of_ble_eq_true rfl, Nat.le_of_ble_eq_true rfl⟩) (fun r_61 _ H locs hw_61 hP hS => ?_)
        refine lv_istore (lv' := [(7, .int r_61), (6, .int r_53), (5, .int (nI k)), (4, .int r_26), (0, .ref ru), (1, .ref nw), (2, .int p1), (3, .int p2)]) hx hb dX6_findVictims_64 hl (by decide) rfl (fun ls hl => ?_)
        refine lv_aload_n hx hb dX6_findVictims_66 rfl (lv_at hl 4 rfl) ?_
        refine lv_iload hx hb dX6_findVictims_67 (lv_at hl 0 rfl) ?_
        refine kt_pi (wc := [(ru, .inr (6, [.ref la, .ref gr, .ref rk, .ref rs, .ref rt, .int tt, .int kg, .ref rv, .int v]))]) [0] hP hD hS hA rfl (by decide) (fun hPc hDc => va_runV (As := [.int r_61]) (rest := []) ⟨hx, hb, hml, hown, hts⟩ (c_X6_isPiece l D cI cZ cB H.size ru la gr rk rs rt rv tt kg v r_61 ) (cwV 1 hts gX6_findVictims_X6_isPiece rfl rfl rfl (by decide +kernel) ⟨Nat.le_of_ble_eq_true rfl, Nat.le_of_ble_eq_true rfl⟩) (kt_preV hN hK hPc hDc 0 (ci := 6) (q := (RX6, TX6, 9)) rfl rfl) rfl rfl hl.1 rfl (lv_room (Nat.le_of_ble_eq_true rfl)) dX6_findVictims_69 ⟨Nat.le_of_ble_eq_true rfl, Nat.le_of_ble_eq_true rfl⟩) (fun r_69 _ H locs hw_69 hP hS => ?_)
        have hq2 := hw_69
        refine kt_join (σ := (Nat → Int32) × Int32) 109 8 (fun u => [(ru, .inr (6, [.ref la, .ref gr, .ref rk, .ref rs, .ref rt, .int tt, .int kg, .ref rv, .int u.2])), (la, .inr (1, [.int lg, .int lh, .int lt, .int lr, .int lc])), (gr, .inr (0, [.ref gt, .ref gg, .ref gn, .int gs, .int gm])), (gt, .inl (cI, 81, .inl tg)), (gn, .inl (cI, 324, .inl nb)), (nw, .inr (8, [.ref sf, .ref sh, .int tu])), (sf, .inl (cI, 40, .inl ff2_34)), (sh, .inl (cI, 81, .inl fh2_34)), (rk, .inl (cI, 40, .inl fk)), (rs, .inl (cI, 40, .inl fs)), (rt, .inl (cZ, 40, .inl ft)), (rv, .inl (cI, 4, .inl u.1))]) (fun u => [(7, .int r_61), (6, .int r_53), (5, .int (nI k)), (4, .int r_26), (0, .ref ru), (1, .ref nw), (2, .int p1), (3, .int p2)]) (fun u => []) (fun u => kt_r u.1 4 0 39 ∧ 0 ≤ u.2.toInt ∧ u.2.toInt ≤ 4) (D := D) (A := A) (H0 := s.heap) (fun u hI H locs hP hD hS ls hl => ?_) (fun j_109 => ?_)
        · obtain ⟨g, v⟩ := u
          have hP : va_P D vwCl [(ru, .inr (6, [.ref la, .ref gr, .ref rk, .ref rs, .ref rt, .int tt, .int kg, .ref rv, .int v])), (la, .inr (1, [.int lg, .int lh, .int lt, .int lr, .int lc])), (gr, .inr (0, [.ref gt, .ref gg, .ref gn, .int gs, .int gm])), (gt, .inl (cI, 81, .inl tg)), (gn, .inl (cI, 324, .inl nb)), (nw, .inr (8, [.ref sf, .ref sh, .int tu])), (sf, .inl (cI, 40, .inl ff2_34)), (sh, .inl (cI, 81, .inl fh2_34)), (rk, .inl (cI, 40, .inl fk)), (rs, .inl (cI, 40, .inl fs)), (rt, .inl (cZ, 40, .inl ft)), (rv, .inl (cI, 4, .inl g))] H := hP
          have hD : va_D A [(ru, .inr (6, [.ref la, .ref gr, .ref rk, .ref rs, .ref rt, .int tt, .int kg, .ref rv, .int v])), (la, .inr (1, [.int lg, .int lh, .int lt, .int lr, .int lc])), (gr, .inr (0, [.ref gt, .ref gg, .ref gn, .int gs, .int gm])), (gt, .inl (cI, 81, .inl tg)), (gn, .inl (cI, 324, .inl nb)), (nw, .inr (8, [.ref sf, .ref sh, .int tu])), (sf, .inl (cI, 40, .inl ff2_34)), (sh, .inl (cI, 81, .inl fh2_34)), (rk, .inl (cI, 40, .inl fk)), (rs, .inl (cI, 40, .inl fs)), (rt, .inl (cZ, 40, .inl ft)), (rv, .inl (cI, 4, .inl g))] := hD
          have hl : lv_has ls 8 [(7, .int r_61), (6, .int r_53), (5, .int (nI k)), (4, .int r_26), (0, .ref ru), (1, .ref nw), (2, .int p1), (3, .int p2)] := hl
          have hI : kt_r g 4 0 39 ∧ 0 ≤ v.toInt ∧ v.toInt ≤ 4 := hI
          obtain ⟨hrv, hvc⟩ := hI
          refine lv_iinc (v := nI (k + 1)) (lv' := [(5, .int (nI (k + 1))), (7, .int r_61), (6, .int r_53), (4, .int r_26), (0, .ref ru), (1, .ref nw), (2, .int p1), (3, .int p2)]) hx hb dX6_findVictims_109 hl (k := 2) rfl (nI_1 _) (by decide) rfl (fun ls hl => ?_)
          refine lv_goto (tgt := 40) hx hb dX6_findVictims_112 (by decide) ?_
          exact ih_40 ((k + 1), g, v) (by show ((k + 1) ≤ 4 ∧ 4 < (k + 1) + n_40) ∧ kt_r g 4 0 39 ∧ 0 ≤ v.toInt ∧ v.toInt ≤ 4; exact ⟨by omega, hrv, hvc⟩) H _ hP hD hS ls (lv_sub hl [0, 3, 4, 5, 6, 7] rfl)
        refine lv_if_eq (tgt := 109) hx hb dX6_findVictims_72 (by decide) (fun c_72 => ?_) (fun c_72 => ?_)
        · have d_72 := c_72
          simp only [kt_lt, kt_le, kt_eq, kt_c0, kt_c1, kt_c2, kt_c3, kt_c4, kt_c8, kt_c9, kt_cm1, kt_c81, kt_c40, kt_c7, kt_c5, kt_c6, kt_c512, kt_c10, kt_c10000] at d_72
          exact j_109 (g, v) (by show kt_r g 4 0 39 ∧ 0 ≤ v.toInt ∧ v.toInt ≤ 4; exact ⟨hrv, hvc⟩) H _ hP hD hS ls (lv_sub hl [0, 1, 2, 3, 4, 5, 6, 7] rfl)
        · have d_72 := c_72
          simp only [kt_lt, kt_le, kt_eq, kt_c0, kt_c1, kt_c2, kt_c3, kt_c4, kt_c8, kt_c9, kt_cm1, kt_c81, kt_c40, kt_c7, kt_c5, kt_c6, kt_c512, kt_c10, kt_c10000] at d_72
          have hq2 := hq2.t c_72
          refine lv_aload_n hx hb dX6_findVictims_75 rfl (lv_at hl 4 rfl) ?_
          refine va_get (D := D) (ci := 6) (C := RX6) (T := TX6) (N := 9) hx hb hts iw_X6_findVictims_X6 hown hK hP 0 rfl rfl 3 (by decide) (hts (.fieldLink RX6 22 "KingTable$Rules" "sides" "[I") (kt_wp_X6_findVictims__X6_findVictims_r1 kt_wm3)) (fun _ h9 => h9) rfl dX6_findVictims_76 ?_
          refine lv_iload hx hb dX6_findVictims_79 (lv_at hl 0 rfl) ?_
          have hi_2 : vp_in r_61 40 := by exact kt_in (by omega) (by omega)
          refine va_iald hx hb hK hP 9 0 rfl rfl hi_2 dX6_findVictims_81 ?_
          refine lv_topi (fun a_81 ea_81 => ?_)
          have ra_81 := hrs.get hi_2
          rw [← ea_81] at ra_81
          refine lv_aload_n hx hb dX6_findVictims_82 rfl (lv_at hl 4 rfl) ?_
          refine va_get (D := D) (ci := 6) (C := RX6) (T := TX6) (N := 9) hx hb hts iw_X6_findVictims_X6 hown hK hP 0 rfl rfl 3 (by decide) (hts (.fieldLink RX6 22 "KingTable$Rules" "sides" "[I") (kt_wp_X6_findVictims__X6_findVictims_r1 kt_wm3)) (fun _ h9 => h9) rfl dX6_findVictims_83 ?_
          refine lv_iload_n hx hb dX6_findVictims_86 rfl (lv_at hl 6 rfl) ?_
          have hi_3 : vp_in p1 40 := by exact kt_in (by omega) (by omega)
          refine va_iald hx hb hK hP 9 0 rfl rfl hi_3 dX6_findVictims_87 ?_
          refine lv_topi (fun a_87 ea_87 => ?_)
          have ra_87 := hrs.get hi_3
          rw [← ea_87] at ra_87
          refine lv_icmp_eq (tgt := 109) hx hb dX6_findVictims_88 (by decide) (fun c_88 => ?_) (fun c_88 => ?_)
          · have d_88 := c_88
            simp only [kt_lt, kt_le, kt_eq, kt_c0, kt_c1, kt_c2, kt_c3, kt_c4, kt_c8, kt_c9, kt_cm1, kt_c81, kt_c40, kt_c7, kt_c5, kt_c6, kt_c512, kt_c10, kt_c10000] at d_88
            exact j_109 (g, v) (by show kt_r g 4 0 39 ∧ 0 ≤ v.toInt ∧ v.toInt ≤ 4; exact ⟨hrv, hvc⟩) H _ hP hD hS ls (lv_sub hl [0, 1, 2, 3, 4, 5, 6, 7] rfl)
          · have d_88 := c_88
            simp only [kt_lt, kt_le, kt_eq, kt_c0, kt_c1, kt_c2, kt_c3, kt_c4, kt_c8, kt_c9, kt_cm1, kt_c81, kt_c40, kt_c7, kt_c5, kt_c6, kt_c512, kt_c10, kt_c10000] at d_88
            refine lv_aload_n hx hb dX6_findVictims_91 rfl (lv_at hl 4 rfl) ?_
            refine lv_aload_n hx hb dX6_findVictims_92 rfl (lv_at hl 5 rfl) ?_
            refine lv_iload hx hb dX6_findVictims_93 (lv_at hl 0 rfl) ?_
            refine lv_iload hx hb dX6_findVictims_95 (lv_at hl 2 rfl) ?_
            refine kt_pi (wc := [(ru, .inr (6, [.ref la, .ref gr, .ref rk, .ref rs, .ref rt, .int tt, .int kg, .ref rv, .int v])), (la, .inr (1, [.int lg, .int lh, .int lt, .int lr, .int lc])), (gr, .inr (0, [.ref gt, .ref gg, .ref gn, .int gs, .int gm])), (gt, .inl (cI, 81, .inl tg)), (gn, .inl (cI, 324, .inl nb)), (nw, .inr (8, [.ref sf, .ref sh, .int tu])), (sf, .inl (cI, 40, .inl ff2_34)), (sh, .inl (cI, 81, .inl fh2_34)), (rk, .inl (cI, 40, .inl fk)), (rs, .inl (cI, 40, .inl fs)), (rt, .inl (cZ, 40, .inl ft))]) [0, 1, 2, 3, 4, 5, 6, 7, 8, 9, 10] hP hD hS hA rfl (by decide) (fun hPc hDc => va_runV (As := [.ref nw, .int r_61, .int (nI k)]) (rest := []) ⟨hx, hb, hml, hown, hts⟩ (c_X6_isCaught l D cI cZ cB H.size ru la gr rk rs rt rv tt kg v lg lh lt lr lc gt gg gn gs gm tg nb nw sf sh tu ff2_34 fh2_34 fk fs ft r_61 (nI k) (by first | assumption | omega | rfl | decide) (by first | assumption | omega | rfl | decide) (by first | assumption | omega | rfl | decide) (by first | assumption | omega | rfl | decide) (by first | assumption | omega | rfl | decide) (by first | assumption | omega | rfl | decide) (by first | assumption | omega | rfl | decide) (by first | assumption | omega | rfl | decide) (by first | assumption | omega | rfl | decide) (by first | assumption | omega | rfl | decide)) (cwV 3 hts gX6_findVictims_X6_isCaught rfl rfl rfl (by decide +kernel) ⟨Nat.le_of_ble_eq_true rfl, Nat.le_of_ble_eq_true rfl⟩) (kt_preV hN hK hPc hDc 0 (ci := 6) (q := (RX6, TX6, 9)) rfl rfl) rfl rfl hl.1 rfl (lv_room (Nat.le_of_ble_eq_true rfl)) dX6_findVictims_97 ⟨Nat.le_of_ble_eq_true rfl, Nat.le_of_ble_eq_true rfl⟩) (fun r_97 _ H locs hw_97 hP hS => ?_)
            refine lv_if_eq (tgt := 109) hx hb dX6_findVictims_100 (by decide) (fun c_100 => ?_) (fun c_100 => ?_)
            · have d_100 := c_100
              simp only [kt_lt, kt_le, kt_eq, kt_c0, kt_c1, kt_c2, kt_c3, kt_c4, kt_c8, kt_c9, kt_cm1, kt_c81, kt_c40, kt_c7, kt_c5, kt_c6, kt_c512, kt_c10, kt_c10000] at d_100
              exact j_109 (g, v) (by show kt_r g 4 0 39 ∧ 0 ≤ v.toInt ∧ v.toInt ≤ 4; exact ⟨hrv, hvc⟩) H _ hP hD hS ls (lv_sub hl [0, 1, 2, 3, 4, 5, 6, 7] rfl)
            · have d_100 := c_100
              simp only [kt_lt, kt_le, kt_eq, kt_c0, kt_c1, kt_c2, kt_c3, kt_c4, kt_c8, kt_c9, kt_cm1, kt_c81, kt_c40, kt_c7, kt_c5, kt_c6, kt_c512, kt_c10, kt_c10000] at d_100
              refine lv_aload_n hx hb dX6_findVictims_103 rfl (lv_at hl 4 rfl) ?_
              refine lv_iload hx hb dX6_findVictims_104 (lv_at hl 0 rfl) ?_
              refine kt_bv (wc := [(ru, .inr (6, [.ref la, .ref gr, .ref rk, .ref rs, .ref rt, .int tt, .int kg, .ref rv, .int v])), (rv, .inl (cI, 4, .inl g))]) (wr := [(la, .inr (1, [.int lg, .int lh, .int lt, .int lr, .int lc])), (gr, .inr (0, [.ref gt, .ref gg, .ref gn, .int gs, .int gm])), (gt, .inl (cI, 81, .inl tg)), (gn, .inl (cI, 324, .inl nb)), (nw, .inr (8, [.ref sf, .ref sh, .int tu])), (sf, .inl (cI, 40, .inl ff2_34)), (sh, .inl (cI, 81, .inl fh2_34)), (rk, .inl (cI, 40, .inl fk)), (rs, .inl (cI, 40, .inl fs)), (rt, .inl (cZ, 40, .inl ft))]) [0, 11] [1, 2, 3, 4, 5, 6, 7, 8, 9, 10] hP hD hS hA rfl rfl (by decide) (by decide) (by decide) (fun hPc hDc => va_runV (As := [.int r_61]) (rest := []) ⟨hx, hb, hml, hown, hts⟩ (c_X6_addVictim l D cI cZ cB H.size ru la gr rk rs rt rv tt kg v g r_61 (by first | assumption | omega | rfl | decide) (by first | assumption | omega | rfl | decide) (by first | assumption | omega | rfl | decide)) (cwV 1 hts gX6_findVictims_X6_addVictim rfl rfl rfl (by decide +kernel) ⟨Nat.le_of_ble_eq_true rfl, Nat.le_of_ble_eq_true rfl⟩) (kt_preV hN hK hPc hDc 0 (ci := 6) (q := (RX6, TX6, 9)) rfl rfl) rfl rfl hl.1 rfl (lv_room (Nat.le_of_ble_eq_true rfl)) dX6_findVictims_106 ⟨Nat.le_of_ble_eq_true rfl, Nat.le_of_ble_eq_true rfl⟩) (fun u_ H locs hw_106 hP hD hS => ?_)
              obtain ⟨fv2_106, vc2_106⟩ := u_
              have hP : va_P D vwCl [(ru, .inr (6, [.ref la, .ref gr, .ref rk, .ref rs, .ref rt, .int tt, .int kg, .ref rv, .int vc2_106])), (la, .inr (1, [.int lg, .int lh, .int lt, .int lr, .int lc])), (gr, .inr (0, [.ref gt, .ref gg, .ref gn, .int gs, .int gm])), (gt, .inl (cI, 81, .inl tg)), (gn, .inl (cI, 324, .inl nb)), (nw, .inr (8, [.ref sf, .ref sh, .int tu])), (sf, .inl (cI, 40, .inl ff2_34)), (sh, .inl (cI, 81, .inl fh2_34)), (rk, .inl (cI, 40, .inl fk)), (rs, .inl (cI, 40, .inl fs)), (rt, .inl (cZ, 40, .inl ft)), (rv, .inl (cI, 4, .inl fv2_106))] H := hP.sub [10, 0, 1, 2, 3, 4, 5, 6, 7, 8, 9, 11] rfl
              have hD : va_D A [(ru, .inr (6, [.ref la, .ref gr, .ref rk, .ref rs, .ref rt, .int tt, .int kg, .ref rv, .int vc2_106])), (la, .inr (1, [.int lg, .int lh, .int lt, .int lr, .int lc])), (gr, .inr (0, [.ref gt, .ref gg, .ref gn, .int gs, .int gm])), (gt, .inl (cI, 81, .inl tg)), (gn, .inl (cI, 324, .inl nb)), (nw, .inr (8, [.ref sf, .ref sh, .int tu])), (sf, .inl (cI, 40, .inl ff2_34)), (sh, .inl (cI, 81, .inl fh2_34)), (rk, .inl (cI, 40, .inl fk)), (rs, .inl (cI, 40, .inl fs)), (rt, .inl (cZ, 40, .inl ft)), (rv, .inl (cI, 4, .inl fv2_106))] := hD.sub [10, 0, 1, 2, 3, 4, 5, 6, 7, 8, 9, 11] (by decide) rfl
              try dsimp only at hw_106
              obtain ⟨hrv, hvc⟩ := hw_106
              exact j_109 (fv2_106, vc2_106) (by show kt_r fv2_106 4 0 39 ∧ 0 ≤ vc2_106.toInt ∧ vc2_106.toInt ≤ 4; exact ⟨hrv, hvc⟩) H _ hP hD hS ls (lv_sub hl [0, 1, 2, 3, 4, 5, 6, 7] rfl)
    · have d_19 := c_19
      simp only [kt_lt, kt_le, kt_eq, kt_c0, kt_c1, kt_c2, kt_c3, kt_c4, kt_c8, kt_c9, kt_cm1, kt_c81, kt_c40, kt_c7, kt_c5, kt_c6, kt_c512, kt_c10, kt_c10000] at d_19
      refine lv_iconst (v := 0) hx hb dX6_findVictims_22 (by decide) ?_
      exact kt_ri (ff, fh, fv, 0) hx hb hr hlk hS dX6_findVictims_23 hP hD (by show (0 ≤ (0 : Int32).toInt ∧ (0 : Int32).toInt ≤ 4) ∧ kt_r ff 40 (-1) 80 ∧ kt_r fh 81 (-1) 39 ∧ kt_r fv 4 0 39 ∧ 0 ≤ (0 : Int32).toInt ∧ (0 : Int32).toInt ≤ 4; first | exact ⟨by decide, hff, hfh, hrv, by decide⟩ | exact ⟨by omega, hff, hfh, hrv, by omega⟩)
