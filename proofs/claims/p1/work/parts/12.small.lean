set_option maxHeartbeats 4000000 in
set_option maxRecDepth 100000 in
theorem c_X9_isSpan (l : Launch) (D : va_G) (cI cZ cB : ClassId) (sz : Nat) (p0 : Int32) : kt_Mi l yX9_isSpan wsX9_isSpan { frames := 0, cells := 0, slots := 0, locals := 0 } D (kt_ty cI cZ cB) [.int p0] sz [] (fun (r : Int32) (u : Unit) => kt_B r (2 ≤ p0 ∧ p0 ≤ 9)) (fun (u : Unit) => []) 0 0 := by
  refine kt_Mi.of (cc := cX9_isSpan) (maxL := 1) (ret := some .boolean) (by decide) rfl (Nat.le_of_ble_eq_true rfl) ?_
  intro p e s m below meth c A ls H hAt hP hD hS hl
  obtain ⟨hx, hb, hr, hml, hown, hts, hN, hK, hlk, hnm, hA⟩ := hAt
  have hl : lv_has ls 1 [(0, .int p0)] := hl
  have hown : s.vm.findClass RX9 = some m.cls := hown
  refine lv_iload_n hx hb dX9_isSpan_0 rfl (lv_at hl 0 rfl) ?_
  refine lv_iconst (v := 2) hx hb dX9_isSpan_1 (by decide) ?_
  refine lv_icmp_lt (tgt := 15) hx hb dX9_isSpan_2 (by decide) (fun c_2 => ?_) (fun c_2 => ?_)
  · refine lv_iconst (v := 0) hx hb dX9_isSpan_15 (by decide) ?_
    exact kt_rz () hx hb hr hlk hS dX9_isSpan_16 hP hD (by first | exact Or.inl ⟨rfl, by (simp only [kt_lt, kt_le, kt_eq, kt_c0 , kt_c1 , kt_c2 , kt_c3 , kt_c4 , kt_c8 , kt_c9 , kt_cm1 , kt_c81 , kt_c40 , kt_c7 , kt_c5 , kt_c6] at *; omega)⟩ | exact Or.inr ⟨rfl, by (simp only [kt_lt, kt_le, kt_eq, kt_c0 , kt_c1 , kt_c2 , kt_c3 , kt_c4 , kt_c8 , kt_c9 , kt_cm1 , kt_c81 , kt_c40 , kt_c7 , kt_c5 , kt_c6] at *; omega)⟩) rfl
  · refine lv_iload_n hx hb dX9_isSpan_5 rfl (lv_at hl 0 rfl) ?_
    refine lv_bipush (v := 9) hx hb dX9_isSpan_6 (by decide) ?_
    refine lv_icmp_gt (tgt := 15) hx hb dX9_isSpan_8 (by decide) (fun c_8 => ?_) (fun c_8 => ?_)
    · refine lv_iconst (v := 0) hx hb dX9_isSpan_15 (by decide) ?_
      exact kt_rz () hx hb hr hlk hS dX9_isSpan_16 hP hD (by first | exact Or.inl ⟨rfl, by (simp only [kt_lt, kt_le, kt_eq, kt_c0 , kt_c1 , kt_c2 , kt_c3 , kt_c4 , kt_c8 , kt_c9 , kt_cm1 , kt_c81 , kt_c40 , kt_c7 , kt_c5 , kt_c6] at *; omega)⟩ | exact Or.inr ⟨rfl, by (simp only [kt_lt, kt_le, kt_eq, kt_c0 , kt_c1 , kt_c2 , kt_c3 , kt_c4 , kt_c8 , kt_c9 , kt_cm1 , kt_c81 , kt_c40 , kt_c7 , kt_c5 , kt_c6] at *; omega)⟩) rfl
    · refine lv_iconst (v := 1) hx hb dX9_isSpan_11 (by decide) ?_
      refine lv_goto (tgt := 16) hx hb dX9_isSpan_12 (by decide) ?_
      exact kt_rz () hx hb hr hlk hS dX9_isSpan_16 hP hD (by first | exact Or.inl ⟨rfl, by (simp only [kt_lt, kt_le, kt_eq, kt_c0 , kt_c1 , kt_c2 , kt_c3 , kt_c4 , kt_c8 , kt_c9 , kt_cm1 , kt_c81 , kt_c40 , kt_c7 , kt_c5 , kt_c6] at *; omega)⟩ | exact Or.inr ⟨rfl, by (simp only [kt_lt, kt_le, kt_eq, kt_c0 , kt_c1 , kt_c2 , kt_c3 , kt_c4 , kt_c8 , kt_c9 , kt_cm1 , kt_c81 , kt_c40 , kt_c7 , kt_c5 , kt_c6] at *; omega)⟩) rfl

set_option maxHeartbeats 4000000 in
set_option maxRecDepth 100000 in
theorem c_X11_isIn (l : Launch) (D : va_G) (cI cZ cB : ClassId) (sz : Nat) (p0 : Int32) (p1 : Int32) (p2 : Int32) : kt_Mi l yX11_isIn wsX11_isIn { frames := 0, cells := 0, slots := 0, locals := 0 } D (kt_ty cI cZ cB) [.int p0, .int p1, .int p2] sz [] (fun (r : Int32) (u : Unit) => kt_B r (p1 ≤ p0 ∧ p0 ≤ p2)) (fun (u : Unit) => []) 0 0 := by
  refine kt_Mi.of (cc := cX11_isIn) (maxL := 3) (ret := some .boolean) (by decide) rfl (Nat.le_of_ble_eq_true rfl) ?_
  intro p e s m below meth c A ls H hAt hP hD hS hl
  obtain ⟨hx, hb, hr, hml, hown, hts, hN, hK, hlk, hnm, hA⟩ := hAt
  have hl : lv_has ls 3 [(0, .int p0), (1, .int p1), (2, .int p2)] := hl
  have hown : s.vm.findClass RX11 = some m.cls := hown
  refine lv_iload_n hx hb dX11_isIn_0 rfl (lv_at hl 0 rfl) ?_
  refine lv_iload_n hx hb dX11_isIn_1 rfl (lv_at hl 1 rfl) ?_
  refine lv_icmp_lt (tgt := 14) hx hb dX11_isIn_2 (by decide) (fun c_2 => ?_) (fun c_2 => ?_)
  · refine lv_iconst (v := 0) hx hb dX11_isIn_14 (by decide) ?_
    exact kt_rz () hx hb hr hlk hS dX11_isIn_15 hP hD (by first | exact Or.inl ⟨rfl, by (simp only [kt_lt, kt_le, kt_eq, kt_c0 , kt_c1 , kt_c2 , kt_c3 , kt_c4 , kt_c8 , kt_c9 , kt_cm1 , kt_c81 , kt_c40 , kt_c7 , kt_c5 , kt_c6] at *; omega)⟩ | exact Or.inr ⟨rfl, by (simp only [kt_lt, kt_le, kt_eq, kt_c0 , kt_c1 , kt_c2 , kt_c3 , kt_c4 , kt_c8 , kt_c9 , kt_cm1 , kt_c81 , kt_c40 , kt_c7 , kt_c5 , kt_c6] at *; omega)⟩) rfl
  · refine lv_iload_n hx hb dX11_isIn_5 rfl (lv_at hl 0 rfl) ?_
    refine lv_iload_n hx hb dX11_isIn_6 rfl (lv_at hl 2 rfl) ?_
    refine lv_icmp_gt (tgt := 14) hx hb dX11_isIn_7 (by decide) (fun c_7 => ?_) (fun c_7 => ?_)
    · refine lv_iconst (v := 0) hx hb dX11_isIn_14 (by decide) ?_
      exact kt_rz () hx hb hr hlk hS dX11_isIn_15 hP hD (by first | exact Or.inl ⟨rfl, by (simp only [kt_lt, kt_le, kt_eq, kt_c0 , kt_c1 , kt_c2 , kt_c3 , kt_c4 , kt_c8 , kt_c9 , kt_cm1 , kt_c81 , kt_c40 , kt_c7 , kt_c5 , kt_c6] at *; omega)⟩ | exact Or.inr ⟨rfl, by (simp only [kt_lt, kt_le, kt_eq, kt_c0 , kt_c1 , kt_c2 , kt_c3 , kt_c4 , kt_c8 , kt_c9 , kt_cm1 , kt_c81 , kt_c40 , kt_c7 , kt_c5 , kt_c6] at *; omega)⟩) rfl
    · refine lv_iconst (v := 1) hx hb dX11_isIn_10 (by decide) ?_
      refine lv_goto (tgt := 15) hx hb dX11_isIn_11 (by decide) ?_
      exact kt_rz () hx hb hr hlk hS dX11_isIn_15 hP hD (by first | exact Or.inl ⟨rfl, by (simp only [kt_lt, kt_le, kt_eq, kt_c0 , kt_c1 , kt_c2 , kt_c3 , kt_c4 , kt_c8 , kt_c9 , kt_cm1 , kt_c81 , kt_c40 , kt_c7 , kt_c5 , kt_c6] at *; omega)⟩ | exact Or.inr ⟨rfl, by (simp only [kt_lt, kt_le, kt_eq, kt_c0 , kt_c1 , kt_c2 , kt_c3 , kt_c4 , kt_c8 , kt_c9 , kt_cm1 , kt_c81 , kt_c40 , kt_c7 , kt_c5 , kt_c6] at *; omega)⟩) rfl

set_option maxHeartbeats 4000000 in
set_option maxRecDepth 100000 in
theorem c_X10_isSide (l : Launch) (D : va_G) (cI cZ cB : ClassId) (sz : Nat) (p0 : Int32) : kt_Mi l yX10_isSide wsX10_isSide { frames := 0, cells := 0, slots := 0, locals := 0 } D (kt_ty cI cZ cB) [.int p0] sz [] (fun (r : Int32) (u : Unit) => kt_B r (p0 = 0 ∨ p0 = 1)) (fun (u : Unit) => []) 0 0 := by
  refine kt_Mi.of (cc := cX10_isSide) (maxL := 1) (ret := some .boolean) (by decide) rfl (Nat.le_of_ble_eq_true rfl) ?_
  intro p e s m below meth c A ls H hAt hP hD hS hl
  obtain ⟨hx, hb, hr, hml, hown, hts, hN, hK, hlk, hnm, hA⟩ := hAt
  have hl : lv_has ls 1 [(0, .int p0)] := hl
  have hown : s.vm.findClass RX10 = some m.cls := hown
  refine lv_iload_n hx hb dX10_isSide_0 rfl (lv_at hl 0 rfl) ?_
  refine lv_if_eq (tgt := 9) hx hb dX10_isSide_1 (by decide) (fun c_1 => ?_) (fun c_1 => ?_)
  · refine lv_iconst (v := 1) hx hb dX10_isSide_9 (by decide) ?_
    refine lv_goto (tgt := 14) hx hb dX10_isSide_10 (by decide) ?_
    exact kt_rz () hx hb hr hlk hS dX10_isSide_14 hP hD (by first | exact Or.inl ⟨rfl, by (simp only [kt_lt, kt_le, kt_eq, kt_c0 , kt_c1 , kt_c2 , kt_c3 , kt_c4 , kt_c8 , kt_c9 , kt_cm1 , kt_c81 , kt_c40 , kt_c7 , kt_c5 , kt_c6] at *; omega)⟩ | exact Or.inr ⟨rfl, by (simp only [kt_lt, kt_le, kt_eq, kt_c0 , kt_c1 , kt_c2 , kt_c3 , kt_c4 , kt_c8 , kt_c9 , kt_cm1 , kt_c81 , kt_c40 , kt_c7 , kt_c5 , kt_c6] at *; omega)⟩) rfl
  · refine lv_iload_n hx hb dX10_isSide_4 rfl (lv_at hl 0 rfl) ?_
    refine lv_iconst (v := 1) hx hb dX10_isSide_5 (by decide) ?_
    refine lv_icmp_ne (tgt := 13) hx hb dX10_isSide_6 (by decide) (fun c_6 => ?_) (fun c_6 => ?_)
    · refine lv_iconst (v := 0) hx hb dX10_isSide_13 (by decide) ?_
      exact kt_rz () hx hb hr hlk hS dX10_isSide_14 hP hD (by first | exact Or.inl ⟨rfl, by (simp only [kt_lt, kt_le, kt_eq, kt_c0 , kt_c1 , kt_c2 , kt_c3 , kt_c4 , kt_c8 , kt_c9 , kt_cm1 , kt_c81 , kt_c40 , kt_c7 , kt_c5 , kt_c6] at *; omega)⟩ | exact Or.inr ⟨rfl, by (simp only [kt_lt, kt_le, kt_eq, kt_c0 , kt_c1 , kt_c2 , kt_c3 , kt_c4 , kt_c8 , kt_c9 , kt_cm1 , kt_c81 , kt_c40 , kt_c7 , kt_c5 , kt_c6] at *; omega)⟩) rfl
    · refine lv_iconst (v := 1) hx hb dX10_isSide_9 (by decide) ?_
      refine lv_goto (tgt := 14) hx hb dX10_isSide_10 (by decide) ?_
      exact kt_rz () hx hb hr hlk hS dX10_isSide_14 hP hD (by first | exact Or.inl ⟨rfl, by (simp only [kt_lt, kt_le, kt_eq, kt_c0 , kt_c1 , kt_c2 , kt_c3 , kt_c4 , kt_c8 , kt_c9 , kt_cm1 , kt_c81 , kt_c40 , kt_c7 , kt_c5 , kt_c6] at *; omega)⟩ | exact Or.inr ⟨rfl, by (simp only [kt_lt, kt_le, kt_eq, kt_c0 , kt_c1 , kt_c2 , kt_c3 , kt_c4 , kt_c8 , kt_c9 , kt_cm1 , kt_c81 , kt_c40 , kt_c7 , kt_c5 , kt_c6] at *; omega)⟩) rfl

set_option maxHeartbeats 4000000 in
set_option maxRecDepth 100000 in
theorem f_X10_kindOfSign (l : Launch) (D : va_G) (cI cZ cB : ClassId) (sz : Nat) : kt_Mi l yX10_kindOfSign wsX10_kindOfSign { frames := 0, cells := 0, slots := 0, locals := 0 } D (kt_ty cI cZ cB) [.int 0] sz [] (fun (r : Int32) (u : Unit) => r = 0) (fun (u : Unit) => []) 0 0 := by
  refine kt_Mi.of (cc := cX10_kindOfSign) (maxL := 1) (ret := some .int) (by decide) rfl (Nat.le_of_ble_eq_true rfl) ?_
  intro p e s m below meth c A ls H hAt hP hD hS hl
  obtain ⟨hx, hb, hr, hml, hown, hts, hN, hK, hlk, hnm, hA⟩ := hAt
  have hl : lv_has ls 1 [(0, .int 0)] := hl
  have hown : s.vm.findClass RX10 = some m.cls := hown
  refine lv_iload_n hx hb dX10_kindOfSign_0 rfl (lv_at hl 0 rfl) ?_
  refine lv_bipush (v := 7) hx hb dX10_kindOfSign_1 (by decide) ?_
  refine lv_icmp_ne (tgt := 8) hx hb dX10_kindOfSign_3 (by decide) (fun c_3 => ?_) (fun c_3 => absurd c_3 (by decide))
  refine lv_iload_n hx hb dX10_kindOfSign_8 rfl (lv_at hl 0 rfl) ?_
  refine lv_iconst (v := 1) hx hb dX10_kindOfSign_9 (by decide) ?_
  refine lv_icmp_lt (tgt := 22) hx hb dX10_kindOfSign_10 (by decide) (fun c_10 => ?_) (fun c_10 => absurd c_10 (by decide))
  refine lv_iconst (v := 0) hx hb dX10_kindOfSign_22 (by decide) ?_
  exact kt_ri () hx hb hr hlk hS dX10_kindOfSign_23 hP hD (by rfl)

set_option maxHeartbeats 4000000 in
set_option maxRecDepth 100000 in
theorem f_X10_typeOfSign (l : Launch) (D : va_G) (cI cZ cB : ClassId) (sz : Nat) : kt_Mi l yX10_typeOfSign wsX10_typeOfSign { frames := 0, cells := 0, slots := 0, locals := 0 } D (kt_ty cI cZ cB) [.int 0] sz [] (fun (r : Int32) (u : Unit) => r = 0) (fun (u : Unit) => []) 0 0 := by
  refine kt_Mi.of (cc := cX10_typeOfSign) (maxL := 1) (ret := some .int) (by decide) rfl (Nat.le_of_ble_eq_true rfl) ?_
  intro p e s m below meth c A ls H hAt hP hD hS hl
  obtain ⟨hx, hb, hr, hml, hown, hts, hN, hK, hlk, hnm, hA⟩ := hAt
  have hl : lv_has ls 1 [(0, .int 0)] := hl
  have hown : s.vm.findClass RX10 = some m.cls := hown
  refine lv_iload_n hx hb dX10_typeOfSign_0 rfl (lv_at hl 0 rfl) ?_
  refine lv_iconst (v := 5) hx hb dX10_typeOfSign_1 (by decide) ?_
  refine lv_icmp_eq (tgt := 11) hx hb dX10_typeOfSign_2 (by decide) (fun c_2 => absurd c_2 (by decide)) (fun c_2 => ?_)
  refine lv_iload_n hx hb dX10_typeOfSign_5 rfl (lv_at hl 0 rfl) ?_
  refine lv_bipush (v := 7) hx hb dX10_typeOfSign_6 (by decide) ?_
  refine lv_icmp_ne (tgt := 13) hx hb dX10_typeOfSign_8 (by decide) (fun c_8 => ?_) (fun c_8 => absurd c_8 (by decide))
  refine lv_iload_n hx hb dX10_typeOfSign_13 rfl (lv_at hl 0 rfl) ?_
  refine lv_bipush (v := 6) hx hb dX10_typeOfSign_14 (by decide) ?_
  refine lv_icmp_ne (tgt := 23) hx hb dX10_typeOfSign_16 (by decide) (fun c_16 => ?_) (fun c_16 => absurd c_16 (by decide))
  refine lv_iconst (v := 0) hx hb dX10_typeOfSign_23 (by decide) ?_
  exact kt_ri () hx hb hr hlk hS dX10_typeOfSign_24 hP hD (by rfl)

theorem iw_X9_size_X9 : ∀ w ∈ wsX90, w ∈ wsX9_size := by decide +kernel
set_option maxHeartbeats 4000000 in
set_option maxRecDepth 100000 in
theorem f_X9_size (l : Launch) (D : va_G) (cI cZ cB : ClassId) (sz : Nat) (to : Nat) (sg : Nat) : kt_Mi l yX9_size wsX9_size { frames := 0, cells := 0, slots := 0, locals := 0 } D (kt_ty cI cZ cB) [.ref to] sz [(to, .inr (9, [.ref sg, .int 3, .int 3]))] (fun (r : Int32) (u : Unit) => r = 9) (fun (u : Unit) => [(to, .inr (9, [.ref sg, .int 3, .int 3]))]) 0 0 := by
  refine kt_Mi.of (cc := cX9_size) (maxL := 1) (ret := some .int) (by decide) rfl (Nat.le_of_ble_eq_true rfl) ?_
  intro p e s m below meth c A ls H hAt hP hD hS hl
  obtain ⟨hx, hb, hr, hml, hown, hts, hN, hK, hlk, hnm, hA⟩ := hAt
  have hl : lv_has ls 1 [(0, .ref to)] := hl
  have hown : s.vm.findClass RX9 = some m.cls := hown
  refine lv_aload_n hx hb dX9_size_0 rfl (lv_at hl 0 rfl) ?_
  refine va_get (D := D) (ci := 9) (C := RX9) (T := TX9) (N := 3) hx hb hts iw_X9_size_X9 hown hK hP 0 rfl rfl 1 (by decide) (hts (.fieldLink RX9 15 "KingTable$Told" "lines" "I") (by decide +kernel)) (fun _ h9 => h9) rfl dX9_size_1 ?_
  refine lv_aload_n hx hb dX9_size_4 rfl (lv_at hl 0 rfl) ?_
  refine va_get (D := D) (ci := 9) (C := RX9) (T := TX9) (N := 3) hx hb hts iw_X9_size_X9 hown hK hP 0 rfl rfl 2 (by decide) (hts (.fieldLink RX9 19 "KingTable$Told" "width" "I") (by decide +kernel)) (fun _ h9 => h9) rfl dX9_size_5 ?_
  refine lv_imul hx hb dX9_size_8 ?_
  refine W.eq (g2 := F0 m 9 ls (.int 9 :: [])) rfl ?_
  exact kt_ri () hx hb hr hlk hS dX9_size_9 hP hD (by rfl)

theorem iw_X4_isThere_X4 : ∀ w ∈ wsX40, w ∈ wsX4_isThere := by decide +kernel
set_option maxHeartbeats 4000000 in
set_option maxRecDepth 100000 in
theorem f_X4_isThere (l : Launch) (D : va_G) (cI cZ cB : ClassId) (sz : Nat) (pl : Nat) (la : Nat) (ru : Nat) (nw : Nat) (lo : Nat) : kt_Mi l yX4_isThere wsX4_isThere { frames := 0, cells := 0, slots := 0, locals := 0 } D (kt_ty cI cZ cB) [.ref pl] sz [(pl, .inr (4, [.ref la, .ref ru, .ref nw, .ref lo, .int 0]))] (fun (r : Int32) (u : Unit) => r = 0) (fun (u : Unit) => [(pl, .inr (4, [.ref la, .ref ru, .ref nw, .ref lo, .int 0]))]) 0 0 := by
  refine kt_Mi.of (cc := cX4_isThere) (maxL := 1) (ret := some .boolean) (by decide) rfl (Nat.le_of_ble_eq_true rfl) ?_
  intro p e s m below meth c A ls H hAt hP hD hS hl
  obtain ⟨hx, hb, hr, hml, hown, hts, hN, hK, hlk, hnm, hA⟩ := hAt
  have hl : lv_has ls 1 [(0, .ref pl)] := hl
  have hown : s.vm.findClass RX4 = some m.cls := hown
  refine lv_aload_n hx hb dX4_isThere_0 rfl (lv_at hl 0 rfl) ?_
  refine va_get (D := D) (ci := 4) (C := RX4) (T := TX4) (N := 5) hx hb hts iw_X4_isThere_X4 hown hK hP 0 rfl rfl 4 (by decide) (hts (.fieldLink RX4 25 "KingTable$Play" "state" "I") (by decide +kernel)) (fun _ h9 => h9) rfl dX4_isThere_1 ?_
  refine lv_if_eq (tgt := 11) hx hb dX4_isThere_4 (by decide) (fun c_4 => ?_) (fun c_4 => absurd c_4 (by decide))
  refine lv_iconst (v := 0) hx hb dX4_isThere_11 (by decide) ?_
  exact kt_rz () hx hb hr hlk hS dX4_isThere_12 hP hD (by rfl) rfl

theorem iw_X4_sideOnTurn_X4 : ∀ w ∈ wsX40, w ∈ wsX4_sideOnTurn := by decide +kernel
set_option maxHeartbeats 4000000 in
set_option maxRecDepth 100000 in
theorem f_X4_sideOnTurn (l : Launch) (D : va_G) (cI cZ cB : ClassId) (sz : Nat) (pl : Nat) (la : Nat) (ru : Nat) (nw : Nat) (lo : Nat) : kt_Mi l yX4_sideOnTurn wsX4_sideOnTurn { frames := 0, cells := 0, slots := 0, locals := 0 } D (kt_ty cI cZ cB) [.ref pl] sz [(pl, .inr (4, [.ref la, .ref ru, .ref nw, .ref lo, .int 0]))] (fun (r : Int32) (u : Unit) => r = (-1)) (fun (u : Unit) => [(pl, .inr (4, [.ref la, .ref ru, .ref nw, .ref lo, .int 0]))]) 0 0 := by
  refine kt_Mi.of (cc := cX4_sideOnTurn) (maxL := 1) (ret := some .int) (by decide) rfl (Nat.le_of_ble_eq_true rfl) ?_
  intro p e s m below meth c A ls H hAt hP hD hS hl
  obtain ⟨hx, hb, hr, hml, hown, hts, hN, hK, hlk, hnm, hA⟩ := hAt
  have hl : lv_has ls 1 [(0, .ref pl)] := hl
  have hown : s.vm.findClass RX4 = some m.cls := hown
  refine lv_aload_n hx hb dX4_sideOnTurn_0 rfl (lv_at hl 0 rfl) ?_
  refine va_get (D := D) (ci := 4) (C := RX4) (T := TX4) (N := 5) hx hb hts iw_X4_sideOnTurn_X4 hown hK hP 0 rfl rfl 4 (by decide) (hts (.fieldLink RX4 25 "KingTable$Play" "state" "I") (by decide +kernel)) (fun _ h9 => h9) rfl dX4_sideOnTurn_1 ?_
  refine lv_iconst (v := 1) hx hb dX4_sideOnTurn_4 (by decide) ?_
  refine lv_icmp_ne (tgt := 18) hx hb dX4_sideOnTurn_5 (by decide) (fun c_5 => ?_) (fun c_5 => absurd c_5 (by decide))
  refine lv_iconst (v := (-1)) hx hb dX4_sideOnTurn_18 (by decide) ?_
  exact kt_ri () hx hb hr hlk hS dX4_sideOnTurn_19 hP hD (by rfl)

theorem iw_X3_latestTakings_X3 : ∀ w ∈ wsX30, w ∈ wsX3_latestTakings := by decide +kernel
set_option maxHeartbeats 4000000 in
set_option maxRecDepth 100000 in
theorem f_X3_latestTakings (l : Launch) (D : va_G) (cI cZ cB : ClassId) (sz : Nat) (lo : Nat) (l0 : Nat) (l1 : Nat) (l2 : Nat) (l3 : Nat) (l4 : Nat) (l5 : Nat) (l6 : Nat) : kt_Mi l yX3_latestTakings wsX3_latestTakings { frames := 0, cells := 0, slots := 0, locals := 0 } D (kt_ty cI cZ cB) [.ref lo] sz [(lo, .inr (3, [.ref l0, .ref l1, .ref l2, .ref l3, .ref l4, .ref l5, .ref l6, .int 0, .int 0]))] (fun (r : Int32) (u : Unit) => r = (-1)) (fun (u : Unit) => [(lo, .inr (3, [.ref l0, .ref l1, .ref l2, .ref l3, .ref l4, .ref l5, .ref l6, .int 0, .int 0]))]) 0 0 := by
  refine kt_Mi.of (cc := cX3_latestTakings) (maxL := 1) (ret := some .int) (by decide) rfl (Nat.le_of_ble_eq_true rfl) ?_
  intro p e s m below meth c A ls H hAt hP hD hS hl
  obtain ⟨hx, hb, hr, hml, hown, hts, hN, hK, hlk, hnm, hA⟩ := hAt
  have hl : lv_has ls 1 [(0, .ref lo)] := hl
  have hown : s.vm.findClass RX3 = some m.cls := hown
  refine lv_aload_n hx hb dX3_latestTakings_0 rfl (lv_at hl 0 rfl) ?_
  refine va_get (D := D) (ci := 3) (C := RX3) (T := TX3) (N := 9) hx hb hts iw_X3_latestTakings_X3 hown hK hP 0 rfl rfl 7 (by decide) (hts (.fieldLink RX3 33 "KingTable$Log" "done" "I") (by decide +kernel)) (fun _ h9 => h9) rfl dX3_latestTakings_1 ?_
  refine lv_if_le (tgt := 21) hx hb dX3_latestTakings_4 (by decide) (fun c_4 => ?_) (fun c_4 => absurd c_4 (by decide))
  refine lv_iconst (v := (-1)) hx hb dX3_latestTakings_21 (by decide) ?_
  exact kt_ri () hx hb hr hlk hS dX3_latestTakings_22 hP hD (by rfl)

theorem iw_X3_latestVictim_X3 : ∀ w ∈ wsX30, w ∈ wsX3_latestVictim := by decide +kernel
set_option maxHeartbeats 4000000 in
set_option maxRecDepth 100000 in
theorem f_X3_latestVictim (l : Launch) (D : va_G) (cI cZ cB : ClassId) (sz : Nat) (lo : Nat) (l0 : Nat) (l1 : Nat) (l2 : Nat) (l3 : Nat) (l4 : Nat) (l5 : Nat) (l6 : Nat) (p0 : Int32) : kt_Mi l yX3_latestVictim wsX3_latestVictim { frames := 0, cells := 0, slots := 0, locals := 0 } D (kt_ty cI cZ cB) [.ref lo, .int p0] sz [(lo, .inr (3, [.ref l0, .ref l1, .ref l2, .ref l3, .ref l4, .ref l5, .ref l6, .int 0, .int 0]))] (fun (r : Int32) (u : Unit) => r = (-1)) (fun (u : Unit) => [(lo, .inr (3, [.ref l0, .ref l1, .ref l2, .ref l3, .ref l4, .ref l5, .ref l6, .int 0, .int 0]))]) 0 0 := by
  refine kt_Mi.of (cc := cX3_latestVictim) (maxL := 3) (ret := some .int) (by decide) rfl (Nat.le_of_ble_eq_true rfl) ?_
  intro p e s m below meth c A ls H hAt hP hD hS hl
  obtain ⟨hx, hb, hr, hml, hown, hts, hN, hK, hlk, hnm, hA⟩ := hAt
  have hl : lv_has ls 3 [(0, .ref lo), (1, .int p0)] := hl
  have hown : s.vm.findClass RX3 = some m.cls := hown
  refine lv_aload_n hx hb dX3_latestVictim_0 rfl (lv_at hl 0 rfl) ?_
  refine va_get (D := D) (ci := 3) (C := RX3) (T := TX3) (N := 9) hx hb hts iw_X3_latestVictim_X3 hown hK hP 0 rfl rfl 7 (by decide) (hts (.fieldLink RX3 33 "KingTable$Log" "done" "I") (by decide +kernel)) (fun _ h9 => h9) rfl dX3_latestVictim_1 ?_
  refine lv_if_le (tgt := 30) hx hb dX3_latestVictim_4 (by decide) (fun c_4 => ?_) (fun c_4 => absurd c_4 (by decide))
  refine lv_iconst (v := 0) hx hb dX3_latestVictim_30 (by decide) ?_
  refine lv_istore_n (lv' := [(2, .int 0), (0, .ref lo), (1, .int p0)]) hx hb dX3_latestVictim_31 rfl hl (by decide) rfl (fun ls hl => ?_)
  refine lv_iload_n hx hb dX3_latestVictim_32 rfl (lv_at hl 0 rfl) ?_
  refine lv_if_eq (tgt := 54) hx hb dX3_latestVictim_33 (by decide) (fun c_33 => ?_) (fun c_33 => absurd c_33 (by decide))
  refine lv_iconst (v := (-1)) hx hb dX3_latestVictim_54 (by decide) ?_
  exact kt_ri () hx hb hr hlk hS dX3_latestVictim_55 hP hD (by rfl)

theorem iw_X4_lost_X4 : ∀ w ∈ wsX40, w ∈ wsX4_lost := by decide +kernel
theorem iw_X4_lost_X6 : ∀ w ∈ wsX60, w ∈ wsX4_lost := by decide +kernel
set_option maxHeartbeats 4000000 in
set_option maxRecDepth 100000 in
theorem f_X4_lost (l : Launch) (D : va_G) (cI cZ cB : ClassId) (sz : Nat) (pl : Nat) (la : Nat) (ru : Nat) (nw : Nat) (lo : Nat) (gr : Nat) (rk : Nat) (rs : Nat) (rt : Nat) (rv : Nat) : kt_Mi l yX4_lost wsX4_lost { frames := 0, cells := 0, slots := 0, locals := 0 } D (kt_ty cI cZ cB) [.ref pl] sz [(pl, .inr (4, [.ref la, .ref ru, .ref nw, .ref lo, .int 0])), (ru, .inr (6, [.ref la, .ref gr, .ref rk, .ref rs, .ref rt, .int 0, .int (-1), .ref rv, .int 0]))] (fun (r : Int32) (u : Unit) => r = 0) (fun (u : Unit) => [(pl, .inr (4, [.ref la, .ref ru, .ref nw, .ref lo, .int 0])), (ru, .inr (6, [.ref la, .ref gr, .ref rk, .ref rs, .ref rt, .int 0, .int (-1), .ref rv, .int 0]))]) 0 0 := by
  refine kt_Mi.of (cc := cX4_lost) (maxL := 3) (ret := some .int) (by decide) rfl (Nat.le_of_ble_eq_true rfl) ?_
  intro p e s m below meth c A ls H hAt hP hD hS hl
  obtain ⟨hx, hb, hr, hml, hown, hts, hN, hK, hlk, hnm, hA⟩ := hAt
  have hl : lv_has ls 3 [(0, .ref pl)] := hl
  have hown : s.vm.findClass RX4 = some m.cls := hown
  refine lv_iconst (v := 0) hx hb dX4_lost_0 (by decide) ?_
  refine lv_istore_n (lv' := [(1, .int 0), (0, .ref pl)]) hx hb dX4_lost_1 rfl hl (by decide) rfl (fun ls hl => ?_)
  refine lv_iconst (v := 0) hx hb dX4_lost_2 (by decide) ?_
  refine lv_istore_n (lv' := [(2, .int 0), (1, .int 0), (0, .ref pl)]) hx hb dX4_lost_3 rfl hl (by decide) rfl (fun ls hl => ?_)
  refine lv_iload_n hx hb dX4_lost_4 rfl (lv_at hl 0 rfl) ?_
  refine lv_aload_n hx hb dX4_lost_5 rfl (lv_at hl 2 rfl) ?_
  refine va_get (D := D) (ci := 4) (C := RX4) (T := TX4) (N := 5) hx hb hts iw_X4_lost_X4 hown hK hP 0 rfl rfl 1 (by decide) (hts (.fieldLink RX4 33 "KingTable$Play" "rules" "LKingTable$Rules;") (by decide +kernel)) (fun _ h9 => h9) rfl dX4_lost_6 ?_
  refine va_getN (D := D) (ci := 6) (C := RX6) (T := TX6) (N := 9) hx hb hts iw_X4_lost_X6 hown hK hP 1 rfl rfl 5 (by decide) (va_Nw.use (w := .fieldLinkNest RX4 71 "KingTable$Rules" "total" "I" "KingTable") rfl (hN _ (by decide +kernel))) (fun _ h9 => h9) rfl dX4_lost_9 ?_
  refine lv_icmp_ge (tgt := 41) hx hb dX4_lost_12 (by decide) (fun c_12 => ?_) (fun c_12 => absurd c_12 (by decide))
  refine lv_iload_n hx hb dX4_lost_41 rfl (lv_at hl 1 rfl) ?_
  exact kt_ri () hx hb hr hlk hS dX4_lost_42 hP hD (by rfl)

theorem iw_X6_isPiece_X6 : ∀ w ∈ wsX60, w ∈ wsX6_isPiece := by decide +kernel
set_option maxHeartbeats 4000000 in
set_option maxRecDepth 100000 in
theorem f_X6_isPiece (l : Launch) (D : va_G) (cI cZ cB : ClassId) (sz : Nat) (ru : Nat) (la : Nat) (gr : Nat) (rk : Nat) (rs : Nat) (rt : Nat) (rv : Nat) (p0 : Int32) : kt_Mi l yX6_isPiece wsX6_isPiece { frames := 0, cells := 0, slots := 0, locals := 0 } D (kt_ty cI cZ cB) [.ref ru, .int p0] sz [(ru, .inr (6, [.ref la, .ref gr, .ref rk, .ref rs, .ref rt, .int 0, .int (-1), .ref rv, .int 0]))] (fun (r : Int32) (u : Unit) => r = 0) (fun (u : Unit) => [(ru, .inr (6, [.ref la, .ref gr, .ref rk, .ref rs, .ref rt, .int 0, .int (-1), .ref rv, .int 0]))]) 0 0 := by
  refine kt_Mi.of (cc := cX6_isPiece) (maxL := 2) (ret := some .boolean) (by decide) rfl (Nat.le_of_ble_eq_true rfl) ?_
  intro p e s m below meth c A ls H hAt hP hD hS hl
  obtain ⟨hx, hb, hr, hml, hown, hts, hN, hK, hlk, hnm, hA⟩ := hAt
  have hl : lv_has ls 2 [(0, .ref ru), (1, .int p0)] := hl
  have hown : s.vm.findClass RX6 = some m.cls := hown
  refine lv_iload_n hx hb dX6_isPiece_0 rfl (lv_at hl 1 rfl) ?_
  refine lv_if_lt (tgt := 16) hx hb dX6_isPiece_1 (by decide) (fun c_1 => ?_) (fun c_1 => ?_)
  · refine lv_iconst (v := 0) hx hb dX6_isPiece_16 (by decide) ?_
    exact kt_rz () hx hb hr hlk hS dX6_isPiece_17 hP hD (by rfl) rfl
  · refine lv_iload_n hx hb dX6_isPiece_4 rfl (lv_at hl 1 rfl) ?_
    refine lv_aload_n hx hb dX6_isPiece_5 rfl (lv_at hl 0 rfl) ?_
    refine va_get (D := D) (ci := 6) (C := RX6) (T := TX6) (N := 9) hx hb hts iw_X6_isPiece_X6 hown hK hP 0 rfl rfl 5 (by decide) (hts (.fieldLink RX6 40 "KingTable$Rules" "total" "I") (by decide +kernel)) (fun _ h9 => h9) rfl dX6_isPiece_6 ?_
    refine lv_icmp_ge (tgt := 16) hx hb dX6_isPiece_9 (by decide) (fun c_9 => ?_) (fun c_9 => (by exfalso; exact c_9 (Int32.not_lt.mp c_1)))
    refine lv_iconst (v := 0) hx hb dX6_isPiece_16 (by decide) ?_
    exact kt_rz () hx hb hr hlk hS dX6_isPiece_17 hP hD (by rfl) rfl

theorem iw_X8_holderOf_X8 : ∀ w ∈ wsX80, w ∈ wsX8_holderOf := by decide +kernel
set_option maxHeartbeats 4000000 in
set_option maxRecDepth 100000 in
theorem c_X8_holderOf (l : Launch) (D : va_G) (cI cZ cB : ClassId) (sz : Nat) (nw : Nat) (sf : Nat) (sh : Nat) (tu : Int32) (fh : Nat → Int32) (p0 : Int32) : kt_Mi l yX8_holderOf wsX8_holderOf { frames := 0, cells := 0, slots := 0, locals := 0 } D (kt_ty cI cZ cB) [.ref nw, .int p0] sz [(nw, .inr (8, [.ref sf, .ref sh, .int tu])), (sh, .inl (cI, 81, .inl fh))] (fun (r : Int32) (u : Unit) => r = if 0 ≤ p0 ∧ p0 < 81 then fh p0.toNatClampNeg else -1) (fun (u : Unit) => [(nw, .inr (8, [.ref sf, .ref sh, .int tu])), (sh, .inl (cI, 81, .inl fh))]) 0 0 := by
  refine kt_Mi.of (cc := cX8_holderOf) (maxL := 2) (ret := some .int) (by decide) rfl (Nat.le_of_ble_eq_true rfl) ?_
  intro p e s m below meth c A ls H hAt hP hD hS hl
  obtain ⟨hx, hb, hr, hml, hown, hts, hN, hK, hlk, hnm, hA⟩ := hAt
  have hl : lv_has ls 2 [(0, .ref nw), (1, .int p0)] := hl
  have hown : s.vm.findClass RX8 = some m.cls := hown
  refine lv_iload_n hx hb dX8_holderOf_0 rfl (lv_at hl 1 rfl) ?_
  refine lv_if_lt (tgt := 19) hx hb dX8_holderOf_1 (by decide) (fun c_1 => ?_) (fun c_1 => ?_)
  · refine lv_iconst (v := (-1)) hx hb dX8_holderOf_19 (by decide) ?_
    exact kt_ri () hx hb hr hlk hS dX8_holderOf_20 hP hD (by first | (rw [ea_15, if_pos (by (simp only [kt_lt, kt_le, kt_eq, kt_c0 , kt_c1 , kt_c2 , kt_c3 , kt_c4 , kt_c8 , kt_c9 , kt_cm1 , kt_c81 , kt_c40 , kt_c7 , kt_c5 , kt_c6] at *; omega))]; done) | (rw [if_neg (by (simp only [kt_lt, kt_le, kt_eq, kt_c0 , kt_c1 , kt_c2 , kt_c3 , kt_c4 , kt_c8 , kt_c9 , kt_cm1 , kt_c81 , kt_c40 , kt_c7 , kt_c5 , kt_c6] at *; omega))]; done))
  · refine lv_iload_n hx hb dX8_holderOf_4 rfl (lv_at hl 1 rfl) ?_
    refine lv_bipush (v := 81) hx hb dX8_holderOf_5 (by decide) ?_
    refine lv_icmp_ge (tgt := 19) hx hb dX8_holderOf_7 (by decide) (fun c_7 => ?_) (fun c_7 => ?_)
    · refine lv_iconst (v := (-1)) hx hb dX8_holderOf_19 (by decide) ?_
      exact kt_ri () hx hb hr hlk hS dX8_holderOf_20 hP hD (by first | (rw [ea_15, if_pos (by (simp only [kt_lt, kt_le, kt_eq, kt_c0 , kt_c1 , kt_c2 , kt_c3 , kt_c4 , kt_c8 , kt_c9 , kt_cm1 , kt_c81 , kt_c40 , kt_c7 , kt_c5 , kt_c6] at *; omega))]; done) | (rw [if_neg (by (simp only [kt_lt, kt_le, kt_eq, kt_c0 , kt_c1 , kt_c2 , kt_c3 , kt_c4 , kt_c8 , kt_c9 , kt_cm1 , kt_c81 , kt_c40 , kt_c7 , kt_c5 , kt_c6] at *; omega))]; done))
    · refine lv_aload_n hx hb dX8_holderOf_10 rfl (lv_at hl 0 rfl) ?_
      refine va_get (D := D) (ci := 8) (C := RX8) (T := TX8) (N := 3) hx hb hts iw_X8_holderOf_X8 hown hK hP 0 rfl rfl 1 (by decide) (hts (.fieldLink RX8 15 "KingTable$Stand" "holders" "[I") (by decide +kernel)) (fun _ h9 => h9) rfl dX8_holderOf_11 ?_
      refine lv_iload_n hx hb dX8_holderOf_14 rfl (lv_at hl 1 rfl) ?_
      have hi_1 : vp_in p0 81 := by exact kt_in (by (simp only [kt_lt, kt_le, kt_eq, kt_c0 , kt_c1 , kt_c2 , kt_c3 , kt_c4 , kt_c8 , kt_c9 , kt_cm1 , kt_c81 , kt_c40 , kt_c7 , kt_c5 , kt_c6] at *; omega)) (by (simp only [kt_lt, kt_le, kt_eq, kt_c0 , kt_c1 , kt_c2 , kt_c3 , kt_c4 , kt_c8 , kt_c9 , kt_cm1 , kt_c81 , kt_c40 , kt_c7 , kt_c5 , kt_c6] at *; omega))
      refine va_iald hx hb hK hP 1 0 rfl rfl hi_1 dX8_holderOf_15 ?_
      refine lv_topi (fun a_15 ea_15 => ?_)
      refine lv_goto (tgt := 20) hx hb dX8_holderOf_16 (by decide) ?_
      exact kt_ri () hx hb hr hlk hS dX8_holderOf_20 hP hD (by first | (rw [ea_15, if_pos (by (simp only [kt_lt, kt_le, kt_eq, kt_c0 , kt_c1 , kt_c2 , kt_c3 , kt_c4 , kt_c8 , kt_c9 , kt_cm1 , kt_c81 , kt_c40 , kt_c7 , kt_c5 , kt_c6] at *; omega))]; done) | (rw [if_neg (by (simp only [kt_lt, kt_le, kt_eq, kt_c0 , kt_c1 , kt_c2 , kt_c3 , kt_c4 , kt_c8 , kt_c9 , kt_cm1 , kt_c81 , kt_c40 , kt_c7 , kt_c5 , kt_c6] at *; omega))]; done))

theorem iw_X8_fieldOf_X8 : ∀ w ∈ wsX80, w ∈ wsX8_fieldOf := by decide +kernel
set_option maxHeartbeats 4000000 in
set_option maxRecDepth 100000 in
theorem c_X8_fieldOf (l : Launch) (D : va_G) (cI cZ cB : ClassId) (sz : Nat) (nw : Nat) (sf : Nat) (sh : Nat) (tu : Int32) (ff : Nat → Int32) (p0 : Int32) : kt_Mi l yX8_fieldOf wsX8_fieldOf { frames := 0, cells := 0, slots := 0, locals := 0 } D (kt_ty cI cZ cB) [.ref nw, .int p0] sz [(nw, .inr (8, [.ref sf, .ref sh, .int tu])), (sf, .inl (cI, 40, .inl ff))] (fun (r : Int32) (u : Unit) => r = if 0 ≤ p0 ∧ p0 < 40 then ff p0.toNatClampNeg else -1) (fun (u : Unit) => [(nw, .inr (8, [.ref sf, .ref sh, .int tu])), (sf, .inl (cI, 40, .inl ff))]) 0 0 := by
  refine kt_Mi.of (cc := cX8_fieldOf) (maxL := 2) (ret := some .int) (by decide) rfl (Nat.le_of_ble_eq_true rfl) ?_
  intro p e s m below meth c A ls H hAt hP hD hS hl
  obtain ⟨hx, hb, hr, hml, hown, hts, hN, hK, hlk, hnm, hA⟩ := hAt
  have hl : lv_has ls 2 [(0, .ref nw), (1, .int p0)] := hl
  have hown : s.vm.findClass RX8 = some m.cls := hown
  refine lv_iload_n hx hb dX8_fieldOf_0 rfl (lv_at hl 1 rfl) ?_
  refine lv_if_lt (tgt := 19) hx hb dX8_fieldOf_1 (by decide) (fun c_1 => ?_) (fun c_1 => ?_)
  · refine lv_iconst (v := (-1)) hx hb dX8_fieldOf_19 (by decide) ?_
    exact kt_ri () hx hb hr hlk hS dX8_fieldOf_20 hP hD (by first | (rw [ea_15, if_pos (by (simp only [kt_lt, kt_le, kt_eq, kt_c0 , kt_c1 , kt_c2 , kt_c3 , kt_c4 , kt_c8 , kt_c9 , kt_cm1 , kt_c81 , kt_c40 , kt_c7 , kt_c5 , kt_c6] at *; omega))]; done) | (rw [if_neg (by (simp only [kt_lt, kt_le, kt_eq, kt_c0 , kt_c1 , kt_c2 , kt_c3 , kt_c4 , kt_c8 , kt_c9 , kt_cm1 , kt_c81 , kt_c40 , kt_c7 , kt_c5 , kt_c6] at *; omega))]; done))
  · refine lv_iload_n hx hb dX8_fieldOf_4 rfl (lv_at hl 1 rfl) ?_
    refine lv_bipush (v := 40) hx hb dX8_fieldOf_5 (by decide) ?_
    refine lv_icmp_ge (tgt := 19) hx hb dX8_fieldOf_7 (by decide) (fun c_7 => ?_) (fun c_7 => ?_)
    · refine lv_iconst (v := (-1)) hx hb dX8_fieldOf_19 (by decide) ?_
      exact kt_ri () hx hb hr hlk hS dX8_fieldOf_20 hP hD (by first | (rw [ea_15, if_pos (by (simp only [kt_lt, kt_le, kt_eq, kt_c0 , kt_c1 , kt_c2 , kt_c3 , kt_c4 , kt_c8 , kt_c9 , kt_cm1 , kt_c81 , kt_c40 , kt_c7 , kt_c5 , kt_c6] at *; omega))]; done) | (rw [if_neg (by (simp only [kt_lt, kt_le, kt_eq, kt_c0 , kt_c1 , kt_c2 , kt_c3 , kt_c4 , kt_c8 , kt_c9 , kt_cm1 , kt_c81 , kt_c40 , kt_c7 , kt_c5 , kt_c6] at *; omega))]; done))
    · refine lv_aload_n hx hb dX8_fieldOf_10 rfl (lv_at hl 0 rfl) ?_
      refine va_get (D := D) (ci := 8) (C := RX8) (T := TX8) (N := 3) hx hb hts iw_X8_fieldOf_X8 hown hK hP 0 rfl rfl 0 (by decide) (hts (.fieldLink RX8 9 "KingTable$Stand" "fields" "[I") (by decide +kernel)) (fun _ h9 => h9) rfl dX8_fieldOf_11 ?_
      refine lv_iload_n hx hb dX8_fieldOf_14 rfl (lv_at hl 1 rfl) ?_
      have hi_1 : vp_in p0 40 := by exact kt_in (by (simp only [kt_lt, kt_le, kt_eq, kt_c0 , kt_c1 , kt_c2 , kt_c3 , kt_c4 , kt_c8 , kt_c9 , kt_cm1 , kt_c81 , kt_c40 , kt_c7 , kt_c5 , kt_c6] at *; omega)) (by (simp only [kt_lt, kt_le, kt_eq, kt_c0 , kt_c1 , kt_c2 , kt_c3 , kt_c4 , kt_c8 , kt_c9 , kt_cm1 , kt_c81 , kt_c40 , kt_c7 , kt_c5 , kt_c6] at *; omega))
      refine va_iald hx hb hK hP 1 0 rfl rfl hi_1 dX8_fieldOf_15 ?_
      refine lv_topi (fun a_15 ea_15 => ?_)
      refine lv_goto (tgt := 20) hx hb dX8_fieldOf_16 (by decide) ?_
      exact kt_ri () hx hb hr hlk hS dX8_fieldOf_20 hP hD (by first | (rw [ea_15, if_pos (by (simp only [kt_lt, kt_le, kt_eq, kt_c0 , kt_c1 , kt_c2 , kt_c3 , kt_c4 , kt_c8 , kt_c9 , kt_cm1 , kt_c81 , kt_c40 , kt_c7 , kt_c5 , kt_c6] at *; omega))]; done) | (rw [if_neg (by (simp only [kt_lt, kt_le, kt_eq, kt_c0 , kt_c1 , kt_c2 , kt_c3 , kt_c4 , kt_c8 , kt_c9 , kt_cm1 , kt_c81 , kt_c40 , kt_c7 , kt_c5 , kt_c6] at *; omega))]; done))
