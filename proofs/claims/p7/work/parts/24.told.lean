set_option maxHeartbeats 4000000 in
set_option maxRecDepth 100000 in
theorem c_X9_isSpan (l : Launch) (D : va_G) (cI cZ cB : ClassId) (sz : Nat) (p0 : Int32) : kt_Mi l yX9_isSpan wsX9_isSpan { frames := 0, cells := 0, slots := 0, locals := 0 } D (kt_ty cI cZ cB) [.int p0] sz [] (fun (r : Int32) (u : Unit) => kt_B r (2 ≤ p0.toInt ∧ p0.toInt ≤ 9)) (fun (u : Unit) => []) 0 0 := by
  refine kt_Mi.of (cc := cX9_isSpan) (maxL := 1) (ret := some .boolean) (by decide) rfl (Nat.le_of_ble_eq_true rfl) ?_
  intro p e s m below meth c A ls H hAt hP hD hS hl
  obtain ⟨hx, hb, hr, hml, hown, hts, hN, hK, hlk, hnm, hA⟩ := hAt
  have hl : lv_has ls 1 [(0, .int p0)] := hl
  have hown : s.vm.findClass RX9 = some m.cls := hown
  refine lv_iload_n hx hb dX9_isSpan_0 rfl (lv_at hl 0 rfl) ?_
  refine lv_iconst (v := 2) hx hb dX9_isSpan_1 (by decide) ?_
  refine lv_icmp_lt (tgt := 15) hx hb dX9_isSpan_2 (by decide) (fun c_2 => ?_) (fun c_2 => ?_)
  · have d_2 := c_2
    simp only [kt_lt, kt_le, kt_eq, kt_c0, kt_c1, kt_c2, kt_c3, kt_c4, kt_c8, kt_c9, kt_cm1, kt_c81, kt_c40, kt_c7, kt_c5, kt_c6, kt_c512, kt_c10, kt_c10000] at d_2
    refine lv_iconst (v := 0) hx hb dX9_isSpan_15 (by decide) ?_
    exact kt_rz () hx hb hr hlk hS dX9_isSpan_16 hP hD (by show kt_B (0 : Int32) (2 ≤ p0.toInt ∧ p0.toInt ≤ 9); first | exact Or.inl ⟨rfl, by omega⟩ | exact Or.inr ⟨rfl, by omega⟩) rfl
  · have d_2 := c_2
    simp only [kt_lt, kt_le, kt_eq, kt_c0, kt_c1, kt_c2, kt_c3, kt_c4, kt_c8, kt_c9, kt_cm1, kt_c81, kt_c40, kt_c7, kt_c5, kt_c6, kt_c512, kt_c10, kt_c10000] at d_2
    refine lv_iload_n hx hb dX9_isSpan_5 rfl (lv_at hl 0 rfl) ?_
    refine lv_bipush (v := 9) hx hb dX9_isSpan_6 (by decide) ?_
    refine lv_icmp_gt (tgt := 15) hx hb dX9_isSpan_8 (by decide) (fun c_8 => ?_) (fun c_8 => ?_)
    · have d_8 := c_8
      simp only [kt_lt, kt_le, kt_eq, kt_c0, kt_c1, kt_c2, kt_c3, kt_c4, kt_c8, kt_c9, kt_cm1, kt_c81, kt_c40, kt_c7, kt_c5, kt_c6, kt_c512, kt_c10, kt_c10000] at d_8
      refine lv_iconst (v := 0) hx hb dX9_isSpan_15 (by decide) ?_
      exact kt_rz () hx hb hr hlk hS dX9_isSpan_16 hP hD (by show kt_B (0 : Int32) (2 ≤ p0.toInt ∧ p0.toInt ≤ 9); first | exact Or.inl ⟨rfl, by omega⟩ | exact Or.inr ⟨rfl, by omega⟩) rfl
    · have d_8 := c_8
      simp only [kt_lt, kt_le, kt_eq, kt_c0, kt_c1, kt_c2, kt_c3, kt_c4, kt_c8, kt_c9, kt_cm1, kt_c81, kt_c40, kt_c7, kt_c5, kt_c6, kt_c512, kt_c10, kt_c10000] at d_8
      refine lv_iconst (v := 1) hx hb dX9_isSpan_11 (by decide) ?_
      refine lv_goto (tgt := 16) hx hb dX9_isSpan_12 (by decide) ?_
      exact kt_rz () hx hb hr hlk hS dX9_isSpan_16 hP hD (by show kt_B (1 : Int32) (2 ≤ p0.toInt ∧ p0.toInt ≤ 9); first | exact Or.inl ⟨rfl, by omega⟩ | exact Or.inr ⟨rfl, by omega⟩) rfl

set_option maxHeartbeats 4000000 in
set_option maxRecDepth 100000 in
theorem c_X10_isSide (l : Launch) (D : va_G) (cI cZ cB : ClassId) (sz : Nat) (p0 : Int32) : kt_Mi l yX10_isSide wsX10_isSide { frames := 0, cells := 0, slots := 0, locals := 0 } D (kt_ty cI cZ cB) [.int p0] sz [] (fun (r : Int32) (u : Unit) => kt_B r (p0.toInt = 0 ∨ p0.toInt = 1)) (fun (u : Unit) => []) 0 0 := by
  refine kt_Mi.of (cc := cX10_isSide) (maxL := 1) (ret := some .boolean) (by decide) rfl (Nat.le_of_ble_eq_true rfl) ?_
  intro p e s m below meth c A ls H hAt hP hD hS hl
  obtain ⟨hx, hb, hr, hml, hown, hts, hN, hK, hlk, hnm, hA⟩ := hAt
  have hl : lv_has ls 1 [(0, .int p0)] := hl
  have hown : s.vm.findClass RX10 = some m.cls := hown
  refine lv_iload_n hx hb dX10_isSide_0 rfl (lv_at hl 0 rfl) ?_
  refine lv_if_eq (tgt := 9) hx hb dX10_isSide_1 (by decide) (fun c_1 => ?_) (fun c_1 => ?_)
  · have d_1 := c_1
    simp only [kt_lt, kt_le, kt_eq, kt_c0, kt_c1, kt_c2, kt_c3, kt_c4, kt_c8, kt_c9, kt_cm1, kt_c81, kt_c40, kt_c7, kt_c5, kt_c6, kt_c512, kt_c10, kt_c10000] at d_1
    refine lv_iconst (v := 1) hx hb dX10_isSide_9 (by decide) ?_
    refine lv_goto (tgt := 14) hx hb dX10_isSide_10 (by decide) ?_
    exact kt_rz () hx hb hr hlk hS dX10_isSide_14 hP hD (by show kt_B (1 : Int32) (p0.toInt = 0 ∨ p0.toInt = 1); first | exact Or.inl ⟨rfl, by omega⟩ | exact Or.inr ⟨rfl, by omega⟩) rfl
  · have d_1 := c_1
    simp only [kt_lt, kt_le, kt_eq, kt_c0, kt_c1, kt_c2, kt_c3, kt_c4, kt_c8, kt_c9, kt_cm1, kt_c81, kt_c40, kt_c7, kt_c5, kt_c6, kt_c512, kt_c10, kt_c10000] at d_1
    refine lv_iload_n hx hb dX10_isSide_4 rfl (lv_at hl 0 rfl) ?_
    refine lv_iconst (v := 1) hx hb dX10_isSide_5 (by decide) ?_
    refine lv_icmp_ne (tgt := 13) hx hb dX10_isSide_6 (by decide) (fun c_6 => ?_) (fun c_6 => ?_)
    · have d_6 := c_6
      simp only [kt_lt, kt_le, kt_eq, kt_c0, kt_c1, kt_c2, kt_c3, kt_c4, kt_c8, kt_c9, kt_cm1, kt_c81, kt_c40, kt_c7, kt_c5, kt_c6, kt_c512, kt_c10, kt_c10000] at d_6
      refine lv_iconst (v := 0) hx hb dX10_isSide_13 (by decide) ?_
      exact kt_rz () hx hb hr hlk hS dX10_isSide_14 hP hD (by show kt_B (0 : Int32) (p0.toInt = 0 ∨ p0.toInt = 1); first | exact Or.inl ⟨rfl, by omega⟩ | exact Or.inr ⟨rfl, by omega⟩) rfl
    · have d_6 := c_6
      simp only [kt_lt, kt_le, kt_eq, kt_c0, kt_c1, kt_c2, kt_c3, kt_c4, kt_c8, kt_c9, kt_cm1, kt_c81, kt_c40, kt_c7, kt_c5, kt_c6, kt_c512, kt_c10, kt_c10000] at d_6
      refine lv_iconst (v := 1) hx hb dX10_isSide_9 (by decide) ?_
      refine lv_goto (tgt := 14) hx hb dX10_isSide_10 (by decide) ?_
      exact kt_rz () hx hb hr hlk hS dX10_isSide_14 hP hD (by show kt_B (1 : Int32) (p0.toInt = 0 ∨ p0.toInt = 1); first | exact Or.inl ⟨rfl, by omega⟩ | exact Or.inr ⟨rfl, by omega⟩) rfl

set_option maxHeartbeats 4000000 in
set_option maxRecDepth 100000 in
theorem c_X10_kindOfSign (l : Launch) (D : va_G) (cI cZ cB : ClassId) (sz : Nat) (p0 : Int32) : kt_Mi l yX10_kindOfSign wsX10_kindOfSign { frames := 0, cells := 0, slots := 0, locals := 0 } D (kt_ty cI cZ cB) [.int p0] sz [] (fun (r : Int32) (u : Unit) => r = kt_kd p0) (fun (u : Unit) => []) 0 0 := by
  refine kt_Mi.of (cc := cX10_kindOfSign) (maxL := 1) (ret := some .int) (by decide) rfl (Nat.le_of_ble_eq_true rfl) ?_
  intro p e s m below meth c A ls H hAt hP hD hS hl
  obtain ⟨hx, hb, hr, hml, hown, hts, hN, hK, hlk, hnm, hA⟩ := hAt
  have hl : lv_has ls 1 [(0, .int p0)] := hl
  have hown : s.vm.findClass RX10 = some m.cls := hown
  refine lv_iload_n hx hb dX10_kindOfSign_0 rfl (lv_at hl 0 rfl) ?_
  refine lv_bipush (v := 7) hx hb dX10_kindOfSign_1 (by decide) ?_
  refine lv_icmp_ne (tgt := 8) hx hb dX10_kindOfSign_3 (by decide) (fun c_3 => ?_) (fun c_3 => ?_)
  · refine lv_iload_n hx hb dX10_kindOfSign_8 rfl (lv_at hl 0 rfl) ?_
    refine lv_iconst (v := 1) hx hb dX10_kindOfSign_9 (by decide) ?_
    refine lv_icmp_lt (tgt := 22) hx hb dX10_kindOfSign_10 (by decide) (fun c_10 => ?_) (fun c_10 => ?_)
    · refine lv_iconst (v := 0) hx hb dX10_kindOfSign_22 (by decide) ?_
      exact kt_ri () hx hb hr hlk hS dX10_kindOfSign_23 hP hD (by first | (unfold kt_kd; rw [if_pos c_3]; done) | (unfold kt_kd; rw [if_neg c_3, if_pos (by simp only [kt_lt, kt_le, kt_eq, kt_c0, kt_c1, kt_c2, kt_c3, kt_c4, kt_c8, kt_c9, kt_cm1, kt_c81, kt_c40, kt_c7, kt_c5, kt_c6, kt_c512, kt_c10, kt_c10000] at *; omega)]; done) | (unfold kt_kd; rw [if_neg c_3, if_neg (by simp only [kt_lt, kt_le, kt_eq, kt_c0, kt_c1, kt_c2, kt_c3, kt_c4, kt_c8, kt_c9, kt_cm1, kt_c81, kt_c40, kt_c7, kt_c5, kt_c6, kt_c512, kt_c10, kt_c10000] at *; omega)]; done))
    · refine lv_iload_n hx hb dX10_kindOfSign_13 rfl (lv_at hl 0 rfl) ?_
      refine lv_iconst (v := 4) hx hb dX10_kindOfSign_14 (by decide) ?_
      refine lv_icmp_gt (tgt := 22) hx hb dX10_kindOfSign_15 (by decide) (fun c_15 => ?_) (fun c_15 => ?_)
      · refine lv_iconst (v := 0) hx hb dX10_kindOfSign_22 (by decide) ?_
        exact kt_ri () hx hb hr hlk hS dX10_kindOfSign_23 hP hD (by first | (unfold kt_kd; rw [if_pos c_3]; done) | (unfold kt_kd; rw [if_neg c_3, if_pos (by simp only [kt_lt, kt_le, kt_eq, kt_c0, kt_c1, kt_c2, kt_c3, kt_c4, kt_c8, kt_c9, kt_cm1, kt_c81, kt_c40, kt_c7, kt_c5, kt_c6, kt_c512, kt_c10, kt_c10000] at *; omega)]; done) | (unfold kt_kd; rw [if_neg c_3, if_neg (by simp only [kt_lt, kt_le, kt_eq, kt_c0, kt_c1, kt_c2, kt_c3, kt_c4, kt_c8, kt_c9, kt_cm1, kt_c81, kt_c40, kt_c7, kt_c5, kt_c6, kt_c512, kt_c10, kt_c10000] at *; omega)]; done))
      · refine lv_iload_n hx hb dX10_kindOfSign_18 rfl (lv_at hl 0 rfl) ?_
        refine lv_goto (tgt := 23) hx hb dX10_kindOfSign_19 (by decide) ?_
        exact kt_ri () hx hb hr hlk hS dX10_kindOfSign_23 hP hD (by first | (unfold kt_kd; rw [if_pos c_3]; done) | (unfold kt_kd; rw [if_neg c_3, if_pos (by simp only [kt_lt, kt_le, kt_eq, kt_c0, kt_c1, kt_c2, kt_c3, kt_c4, kt_c8, kt_c9, kt_cm1, kt_c81, kt_c40, kt_c7, kt_c5, kt_c6, kt_c512, kt_c10, kt_c10000] at *; omega)]; done) | (unfold kt_kd; rw [if_neg c_3, if_neg (by simp only [kt_lt, kt_le, kt_eq, kt_c0, kt_c1, kt_c2, kt_c3, kt_c4, kt_c8, kt_c9, kt_cm1, kt_c81, kt_c40, kt_c7, kt_c5, kt_c6, kt_c512, kt_c10, kt_c10000] at *; omega)]; done))
  · refine lv_iconst (v := 2) hx hb dX10_kindOfSign_6 (by decide) ?_
    exact kt_ri () hx hb hr hlk hS dX10_kindOfSign_7 hP hD (by first | (unfold kt_kd; rw [if_pos c_3]; done) | (unfold kt_kd; rw [if_neg c_3, if_pos (by simp only [kt_lt, kt_le, kt_eq, kt_c0, kt_c1, kt_c2, kt_c3, kt_c4, kt_c8, kt_c9, kt_cm1, kt_c81, kt_c40, kt_c7, kt_c5, kt_c6, kt_c512, kt_c10, kt_c10000] at *; omega)]; done) | (unfold kt_kd; rw [if_neg c_3, if_neg (by simp only [kt_lt, kt_le, kt_eq, kt_c0, kt_c1, kt_c2, kt_c3, kt_c4, kt_c8, kt_c9, kt_cm1, kt_c81, kt_c40, kt_c7, kt_c5, kt_c6, kt_c512, kt_c10, kt_c10000] at *; omega)]; done))

set_option maxHeartbeats 4000000 in
set_option maxRecDepth 100000 in
theorem c_X10_typeOfSign (l : Launch) (D : va_G) (cI cZ cB : ClassId) (sz : Nat) (p0 : Int32) : kt_Mi l yX10_typeOfSign wsX10_typeOfSign { frames := 0, cells := 0, slots := 0, locals := 0 } D (kt_ty cI cZ cB) [.int p0] sz [] (fun (r : Int32) (u : Unit) => r = kt_tp p0) (fun (u : Unit) => []) 0 0 := by
  refine kt_Mi.of (cc := cX10_typeOfSign) (maxL := 1) (ret := some .int) (by decide) rfl (Nat.le_of_ble_eq_true rfl) ?_
  intro p e s m below meth c A ls H hAt hP hD hS hl
  obtain ⟨hx, hb, hr, hml, hown, hts, hN, hK, hlk, hnm, hA⟩ := hAt
  have hl : lv_has ls 1 [(0, .int p0)] := hl
  have hown : s.vm.findClass RX10 = some m.cls := hown
  refine lv_iload_n hx hb dX10_typeOfSign_0 rfl (lv_at hl 0 rfl) ?_
  refine lv_iconst (v := 5) hx hb dX10_typeOfSign_1 (by decide) ?_
  refine lv_icmp_eq (tgt := 11) hx hb dX10_typeOfSign_2 (by decide) (fun c_2 => ?_) (fun c_2 => ?_)
  · refine lv_iconst (v := 1) hx hb dX10_typeOfSign_11 (by decide) ?_
    exact kt_ri () hx hb hr hlk hS dX10_typeOfSign_12 hP hD (by first | (unfold kt_tp; rw [if_pos (by simp only [kt_lt, kt_le, kt_eq, kt_c0, kt_c1, kt_c2, kt_c3, kt_c4, kt_c8, kt_c9, kt_cm1, kt_c81, kt_c40, kt_c7, kt_c5, kt_c6, kt_c512, kt_c10, kt_c10000] at *; omega)]; done) | (unfold kt_tp; rw [if_neg (by simp only [kt_lt, kt_le, kt_eq, kt_c0, kt_c1, kt_c2, kt_c3, kt_c4, kt_c8, kt_c9, kt_cm1, kt_c81, kt_c40, kt_c7, kt_c5, kt_c6, kt_c512, kt_c10, kt_c10000] at *; omega), if_pos (by simp only [kt_lt, kt_le, kt_eq, kt_c0, kt_c1, kt_c2, kt_c3, kt_c4, kt_c8, kt_c9, kt_cm1, kt_c81, kt_c40, kt_c7, kt_c5, kt_c6, kt_c512, kt_c10, kt_c10000] at *; omega)]; done) | (unfold kt_tp; rw [if_neg (by simp only [kt_lt, kt_le, kt_eq, kt_c0, kt_c1, kt_c2, kt_c3, kt_c4, kt_c8, kt_c9, kt_cm1, kt_c81, kt_c40, kt_c7, kt_c5, kt_c6, kt_c512, kt_c10, kt_c10000] at *; omega), if_neg (by simp only [kt_lt, kt_le, kt_eq, kt_c0, kt_c1, kt_c2, kt_c3, kt_c4, kt_c8, kt_c9, kt_cm1, kt_c81, kt_c40, kt_c7, kt_c5, kt_c6, kt_c512, kt_c10, kt_c10000] at *; omega)]; done))
  · refine lv_iload_n hx hb dX10_typeOfSign_5 rfl (lv_at hl 0 rfl) ?_
    refine lv_bipush (v := 7) hx hb dX10_typeOfSign_6 (by decide) ?_
    refine lv_icmp_ne (tgt := 13) hx hb dX10_typeOfSign_8 (by decide) (fun c_8 => ?_) (fun c_8 => ?_)
    · refine lv_iload_n hx hb dX10_typeOfSign_13 rfl (lv_at hl 0 rfl) ?_
      refine lv_bipush (v := 6) hx hb dX10_typeOfSign_14 (by decide) ?_
      refine lv_icmp_ne (tgt := 23) hx hb dX10_typeOfSign_16 (by decide) (fun c_16 => ?_) (fun c_16 => ?_)
      · refine lv_iconst (v := 0) hx hb dX10_typeOfSign_23 (by decide) ?_
        exact kt_ri () hx hb hr hlk hS dX10_typeOfSign_24 hP hD (by first | (unfold kt_tp; rw [if_pos (by simp only [kt_lt, kt_le, kt_eq, kt_c0, kt_c1, kt_c2, kt_c3, kt_c4, kt_c8, kt_c9, kt_cm1, kt_c81, kt_c40, kt_c7, kt_c5, kt_c6, kt_c512, kt_c10, kt_c10000] at *; omega)]; done) | (unfold kt_tp; rw [if_neg (by simp only [kt_lt, kt_le, kt_eq, kt_c0, kt_c1, kt_c2, kt_c3, kt_c4, kt_c8, kt_c9, kt_cm1, kt_c81, kt_c40, kt_c7, kt_c5, kt_c6, kt_c512, kt_c10, kt_c10000] at *; omega), if_pos (by simp only [kt_lt, kt_le, kt_eq, kt_c0, kt_c1, kt_c2, kt_c3, kt_c4, kt_c8, kt_c9, kt_cm1, kt_c81, kt_c40, kt_c7, kt_c5, kt_c6, kt_c512, kt_c10, kt_c10000] at *; omega)]; done) | (unfold kt_tp; rw [if_neg (by simp only [kt_lt, kt_le, kt_eq, kt_c0, kt_c1, kt_c2, kt_c3, kt_c4, kt_c8, kt_c9, kt_cm1, kt_c81, kt_c40, kt_c7, kt_c5, kt_c6, kt_c512, kt_c10, kt_c10000] at *; omega), if_neg (by simp only [kt_lt, kt_le, kt_eq, kt_c0, kt_c1, kt_c2, kt_c3, kt_c4, kt_c8, kt_c9, kt_cm1, kt_c81, kt_c40, kt_c7, kt_c5, kt_c6, kt_c512, kt_c10, kt_c10000] at *; omega)]; done))
      · refine lv_iconst (v := 2) hx hb dX10_typeOfSign_19 (by decide) ?_
        refine lv_goto (tgt := 24) hx hb dX10_typeOfSign_20 (by decide) ?_
        exact kt_ri () hx hb hr hlk hS dX10_typeOfSign_24 hP hD (by first | (unfold kt_tp; rw [if_pos (by simp only [kt_lt, kt_le, kt_eq, kt_c0, kt_c1, kt_c2, kt_c3, kt_c4, kt_c8, kt_c9, kt_cm1, kt_c81, kt_c40, kt_c7, kt_c5, kt_c6, kt_c512, kt_c10, kt_c10000] at *; omega)]; done) | (unfold kt_tp; rw [if_neg (by simp only [kt_lt, kt_le, kt_eq, kt_c0, kt_c1, kt_c2, kt_c3, kt_c4, kt_c8, kt_c9, kt_cm1, kt_c81, kt_c40, kt_c7, kt_c5, kt_c6, kt_c512, kt_c10, kt_c10000] at *; omega), if_pos (by simp only [kt_lt, kt_le, kt_eq, kt_c0, kt_c1, kt_c2, kt_c3, kt_c4, kt_c8, kt_c9, kt_cm1, kt_c81, kt_c40, kt_c7, kt_c5, kt_c6, kt_c512, kt_c10, kt_c10000] at *; omega)]; done) | (unfold kt_tp; rw [if_neg (by simp only [kt_lt, kt_le, kt_eq, kt_c0, kt_c1, kt_c2, kt_c3, kt_c4, kt_c8, kt_c9, kt_cm1, kt_c81, kt_c40, kt_c7, kt_c5, kt_c6, kt_c512, kt_c10, kt_c10000] at *; omega), if_neg (by simp only [kt_lt, kt_le, kt_eq, kt_c0, kt_c1, kt_c2, kt_c3, kt_c4, kt_c8, kt_c9, kt_cm1, kt_c81, kt_c40, kt_c7, kt_c5, kt_c6, kt_c512, kt_c10, kt_c10000] at *; omega)]; done))
    · refine lv_iconst (v := 1) hx hb dX10_typeOfSign_11 (by decide) ?_
      exact kt_ri () hx hb hr hlk hS dX10_typeOfSign_12 hP hD (by first | (unfold kt_tp; rw [if_pos (by simp only [kt_lt, kt_le, kt_eq, kt_c0, kt_c1, kt_c2, kt_c3, kt_c4, kt_c8, kt_c9, kt_cm1, kt_c81, kt_c40, kt_c7, kt_c5, kt_c6, kt_c512, kt_c10, kt_c10000] at *; omega)]; done) | (unfold kt_tp; rw [if_neg (by simp only [kt_lt, kt_le, kt_eq, kt_c0, kt_c1, kt_c2, kt_c3, kt_c4, kt_c8, kt_c9, kt_cm1, kt_c81, kt_c40, kt_c7, kt_c5, kt_c6, kt_c512, kt_c10, kt_c10000] at *; omega), if_pos (by simp only [kt_lt, kt_le, kt_eq, kt_c0, kt_c1, kt_c2, kt_c3, kt_c4, kt_c8, kt_c9, kt_cm1, kt_c81, kt_c40, kt_c7, kt_c5, kt_c6, kt_c512, kt_c10, kt_c10000] at *; omega)]; done) | (unfold kt_tp; rw [if_neg (by simp only [kt_lt, kt_le, kt_eq, kt_c0, kt_c1, kt_c2, kt_c3, kt_c4, kt_c8, kt_c9, kt_cm1, kt_c81, kt_c40, kt_c7, kt_c5, kt_c6, kt_c512, kt_c10, kt_c10000] at *; omega), if_neg (by simp only [kt_lt, kt_le, kt_eq, kt_c0, kt_c1, kt_c2, kt_c3, kt_c4, kt_c8, kt_c9, kt_cm1, kt_c81, kt_c40, kt_c7, kt_c5, kt_c6, kt_c512, kt_c10, kt_c10000] at *; omega)]; done))

theorem iw_X9_size_X9 : ∀ w ∈ wsX90, w ∈ wsX9_size := fun _ h => kt_wp_X9_size__X90 h
set_option maxHeartbeats 4000000 in
set_option maxRecDepth 100000 in
theorem c_X9_size (l : Launch) (D : va_G) (cI cZ cB : ClassId) (sz : Nat) (to : Nat) (sg : Nat) (ln : Int32) (wd : Int32) (hln : 2 ≤ ln.toInt ∧ ln.toInt ≤ 9) (hwd : 2 ≤ wd.toInt ∧ wd.toInt ≤ 9) : kt_Mi l yX9_size wsX9_size { frames := 0, cells := 0, slots := 0, locals := 0 } D (kt_ty cI cZ cB) [.ref to] sz [(to, .inr (9, [.ref sg, .int ln, .int wd]))] (fun (r : Int32) (u : Unit) => r.toInt = ln.toInt * wd.toInt ∧ 4 ≤ r.toInt ∧ r.toInt ≤ 81) (fun (u : Unit) => [(to, .inr (9, [.ref sg, .int ln, .int wd]))]) 0 0 := by
  refine kt_Mi.of (cc := cX9_size) (maxL := 1) (ret := some .int) (by decide) rfl (Nat.le_of_ble_eq_true rfl) ?_
  intro p e s m below meth c A ls H hAt hP hD hS hl
  obtain ⟨hx, hb, hr, hml, hown, hts, hN, hK, hlk, hnm, hA⟩ := hAt
  have hl : lv_has ls 1 [(0, .ref to)] := hl
  have hown : s.vm.findClass RX9 = some m.cls := hown
  refine lv_aload_n hx hb dX9_size_0 rfl (lv_at hl 0 rfl) ?_
  refine va_get (D := D) (ci := 9) (C := RX9) (T := TX9) (N := 3) hx hb hts iw_X9_size_X9 hown hK hP 0 rfl rfl 1 (by decide) (hts (.fieldLink RX9 15 "KingTable$Told" "lines" "I") (List.mem_cons_of_mem _ (List.mem_append_left _ (List.Mem.head _)))) (fun _ h9 => h9) rfl dX9_size_1 ?_
  refine lv_aload_n hx hb dX9_size_4 rfl (lv_at hl 0 rfl) ?_
  refine va_get (D := D) (ci := 9) (C := RX9) (T := TX9) (N := 3) hx hb hts iw_X9_size_X9 hown hK hP 0 rfl rfl 2 (by decide) (hts (.fieldLink RX9 19 "KingTable$Told" "width" "I") (List.mem_cons_of_mem _ (List.mem_append_left _ (List.mem_cons_of_mem _ (List.Mem.head _))))) (fun _ h9 => h9) rfl dX9_size_5 ?_
  refine lv_imul hx hb dX9_size_8 ?_
  refine lv_topi (fun t_8 et_8 => ?_)
  obtain ⟨k_8, hk_8, hm_8, hM_8⟩ := kt_mulxk et_8
  exact kt_ri () hx hb hr hlk hS dX9_size_9 hP hD (by show t_8.toInt = ln.toInt * wd.toInt ∧ 4 ≤ t_8.toInt ∧ t_8.toInt ≤ 81; have h0 := kt_mulb hln hwd; omega)

theorem iw_X9_renew_X9 : ∀ w ∈ wsX90, w ∈ wsX9_renew := fun _ h => kt_wp_X9_renew__X90 h
set_option maxHeartbeats 4000000 in
set_option maxRecDepth 100000 in
theorem c_X9_renew (l : Launch) (D : va_G) (cI cZ cB : ClassId) (sz : Nat) (to : Nat) (sg : Nat) (ln : Int32) (wd : Int32) (fg : Nat → Int32) (p1 : Int32) (p2 : Int32) : kt_Mi l yX9_renew wsX9_renew { frames := 1, cells := 0, slots := 0, locals := 23 } D (kt_ty cI cZ cB) [.ref to, .int p1, .int p2] sz [(to, .inr (9, [.ref sg, .int ln, .int wd])), (sg, .inl (cI, 81, .inl fg))] (fun (r : Int32) (u : Int32 × Int32 × (Nat → Int32)) => (r = 1 ∧ (2 ≤ p1.toInt ∧ p1.toInt ≤ 9 ∧ 2 ≤ p2.toInt ∧ p2.toInt ≤ 9) ∧ u.1 = p1 ∧ u.2.1 = p2 ∧ u.2.2 = fun _ => 0) ∨ (r = 0 ∧ ¬ (2 ≤ p1.toInt ∧ p1.toInt ≤ 9 ∧ 2 ≤ p2.toInt ∧ p2.toInt ≤ 9) ∧ u.1 = ln ∧ u.2.1 = wd ∧ u.2.2 = fg)) (fun (u : Int32 × Int32 × (Nat → Int32)) => [(to, .inr (9, [.ref sg, .int u.1, .int u.2.1])), (sg, .inl (cI, 81, .inl u.2.2))]) 0 0 := by
  refine kt_Mi.of (cc := cX9_renew) (maxL := 3) (ret := some .boolean) (by decide) rfl (Nat.le_of_ble_eq_true rfl) ?_
  intro p e s m below meth c A ls H hAt hP hD hS hl
  obtain ⟨hx, hb, hr, hml, hown, hts, hN, hK, hlk, hnm, hA⟩ := hAt
  have hl : lv_has ls 3 [(0, .ref to), (1, .int p1), (2, .int p2)] := hl
  have hown : s.vm.findClass RX9 = some m.cls := hown
  refine lv_iload_n hx hb dX9_renew_0 rfl (lv_at hl 1 rfl) ?_
  refine kt_pi (wc := []) [] hP hD hS hA rfl (by decide) (fun hPc hDc => va_runS (As := [.int p1]) (rest := []) ⟨hx, hb, hml, hown, hts⟩ (c_X9_isSpan l D cI cZ cB H.size p1 ) (va_cwS 1 hts gX9_renew_X9_isSpan rfl rfl rfl (by decide +kernel) ⟨Nat.le_of_ble_eq_true rfl, Nat.le_of_ble_eq_true rfl⟩) (kt_preS hN hK hPc hDc) rfl rfl hl.1 rfl (lv_room (Nat.le_of_ble_eq_true rfl)) dX9_renew_1 ⟨Nat.le_of_ble_eq_true rfl, Nat.le_of_ble_eq_true rfl⟩) (fun r_1 _ H locs hw_1 hP hS => ?_)
  refine lv_if_eq (tgt := 14) hx hb dX9_renew_4 (by decide) (fun c_4 => ?_) (fun c_4 => ?_)
  · have d_4 := c_4
    simp only [kt_lt, kt_le, kt_eq, kt_c0, kt_c1, kt_c2, kt_c3, kt_c4, kt_c8, kt_c9, kt_cm1, kt_c81, kt_c40, kt_c7, kt_c5, kt_c6, kt_c512, kt_c10, kt_c10000] at d_4
    refine lv_iconst (v := 0) hx hb dX9_renew_14 (by decide) ?_
    exact kt_rz (ln, wd, fg) hx hb hr hlk hS dX9_renew_15 hP hD (by show ((0 : Int32) = 1 ∧ (2 ≤ p1.toInt ∧ p1.toInt ≤ 9 ∧ 2 ≤ p2.toInt ∧ p2.toInt ≤ 9) ∧ ln = p1 ∧ wd = p2 ∧ fg = fun _ => 0) ∨ ((0 : Int32) = 0 ∧ ¬ (2 ≤ p1.toInt ∧ p1.toInt ≤ 9 ∧ 2 ≤ p2.toInt ∧ p2.toInt ≤ 9) ∧ ln = ln ∧ wd = wd ∧ fg = fg); first | exact Or.inr ⟨rfl, fun h => (hw_1.f c_4) ⟨h.1, h.2.1⟩, rfl, rfl, rfl⟩ | exact Or.inr ⟨rfl, fun h => (hw_8.f c_11) ⟨h.2.2.1, h.2.2.2⟩, rfl, rfl, rfl⟩ | exact Or.inl ⟨rfl, ⟨(hw_1.t c_4).1, (hw_1.t c_4).2, (hw_8.t c_11).1, (hw_8.t c_11).2⟩, rfl, rfl, rfl⟩) rfl
  · have d_4 := c_4
    simp only [kt_lt, kt_le, kt_eq, kt_c0, kt_c1, kt_c2, kt_c3, kt_c4, kt_c8, kt_c9, kt_cm1, kt_c81, kt_c40, kt_c7, kt_c5, kt_c6, kt_c512, kt_c10, kt_c10000] at d_4
    refine lv_iload_n hx hb dX9_renew_7 rfl (lv_at hl 2 rfl) ?_
    refine kt_pi (wc := []) [] hP hD hS hA rfl (by decide) (fun hPc hDc => va_runS (As := [.int p2]) (rest := []) ⟨hx, hb, hml, hown, hts⟩ (c_X9_isSpan l D cI cZ cB H.size p2 ) (va_cwS 1 hts gX9_renew_X9_isSpan rfl rfl rfl (by decide +kernel) ⟨Nat.le_of_ble_eq_true rfl, Nat.le_of_ble_eq_true rfl⟩) (kt_preS hN hK hPc hDc) rfl rfl hl.1 rfl (lv_room (Nat.le_of_ble_eq_true rfl)) dX9_renew_8 ⟨Nat.le_of_ble_eq_true rfl, Nat.le_of_ble_eq_true rfl⟩) (fun r_8 _ H locs hw_8 hP hS => ?_)
    refine lv_if_ne (tgt := 16) hx hb dX9_renew_11 (by decide) (fun c_11 => ?_) (fun c_11 => ?_)
    · have d_11 := c_11
      simp only [kt_lt, kt_le, kt_eq, kt_c0, kt_c1, kt_c2, kt_c3, kt_c4, kt_c8, kt_c9, kt_cm1, kt_c81, kt_c40, kt_c7, kt_c5, kt_c6, kt_c512, kt_c10, kt_c10000] at d_11
      refine lv_aload_n hx hb dX9_renew_16 rfl (lv_at hl 0 rfl) ?_
      refine lv_iload_n hx hb dX9_renew_17 rfl (lv_at hl 1 rfl) ?_
      refine va_put (D := D) (ci := 9) (v := .int p1) (ty := .int) (C := RX9) (T := TX9) (N := 3) hx hb hts iw_X9_renew_X9 tyX9 tyX9_ok nmX9 hown hK hP hD hS 0 rfl rfl 1 (by decide) (hts (.fieldLink RX9 15 "KingTable$Told" "lines" "I") (List.mem_cons_of_mem _ (List.mem_append_left _ (List.Mem.head _)))) (fun _ h9 => h9) rfl (by decide +kernel) rfl rfl (Nat.le_of_ble_eq_true rfl) dX9_renew_18 (fun H locs hP hD hS => ?_)
      have hP : va_P D vwCl [(to, .inr (9, [.ref sg, .int p1, .int wd])), (sg, .inl (cI, 81, .inl fg))] H := hP
      have hD : va_D A [(to, .inr (9, [.ref sg, .int p1, .int wd])), (sg, .inl (cI, 81, .inl fg))] := hD
      refine lv_aload_n hx hb dX9_renew_21 rfl (lv_at hl 0 rfl) ?_
      refine lv_iload_n hx hb dX9_renew_22 rfl (lv_at hl 2 rfl) ?_
      refine va_put (D := D) (ci := 9) (v := .int p2) (ty := .int) (C := RX9) (T := TX9) (N := 3) hx hb hts iw_X9_renew_X9 tyX9 tyX9_ok nmX9 hown hK hP hD hS 0 rfl rfl 2 (by decide) (hts (.fieldLink RX9 19 "KingTable$Told" "width" "I") (List.mem_cons_of_mem _ (List.mem_append_left _ (List.mem_cons_of_mem _ (List.Mem.head _))))) (fun _ h9 => h9) rfl (by decide +kernel) rfl rfl (Nat.le_of_ble_eq_true rfl) dX9_renew_23 (fun H locs hP hD hS => ?_)
      have hP : va_P D vwCl [(to, .inr (9, [.ref sg, .int p1, .int p2])), (sg, .inl (cI, 81, .inl fg))] H := hP
      have hD : va_D A [(to, .inr (9, [.ref sg, .int p1, .int p2])), (sg, .inl (cI, 81, .inl fg))] := hD
      refine lv_aload_n hx hb dX9_renew_26 rfl (lv_at hl 0 rfl) ?_
      refine va_get (D := D) (ci := 9) (C := RX9) (T := TX9) (N := 3) hx hb hts iw_X9_renew_X9 hown hK hP 0 rfl rfl 0 (by decide) (hts (.fieldLink RX9 9 "KingTable$Told" "signs" "[I") (List.mem_cons_of_mem _ (List.mem_append_left _ (List.mem_cons_of_mem _ (List.mem_cons_of_mem _ (List.Mem.head _)))))) (fun _ h9 => h9) rfl dX9_renew_27 ?_
      refine lv_iconst (v := 0) hx hb dX9_renew_30 (by decide) ?_
      refine kt_bv (wc := [(sg, .inl (cI, 81, .inl fg))]) (wr := [(to, .inr (9, [.ref sg, .int p1, .int p2]))]) [1] [0] hP hD hS hA rfl rfl (by decide) (by decide) (by decide) (fun hPc hDc => va_runS (As := [.ref sg, .int 0]) (rest := []) ⟨hx, hb, hml, hown, hts⟩ (c_fill l D cI cZ cB H.size sg 81 fg 0 (by decide)) (va_cwS 2 hts gX9_renew_J7_fill_53178 rfl rfl rfl (by decide +kernel) ⟨Nat.le_of_ble_eq_true rfl, Nat.le_of_ble_eq_true rfl⟩) (kt_preS hN hK hPc hDc) rfl rfl hl.1 rfl (lv_room (Nat.le_of_ble_eq_true rfl)) dX9_renew_31 ⟨Nat.le_of_ble_eq_true rfl, Nat.le_of_ble_eq_true rfl⟩) (fun u_ H locs hw_31 hP hD hS => ?_)
      have hP : va_P D vwCl [(to, .inr (9, [.ref sg, .int p1, .int p2])), (sg, .inl (cI, 81, .inl (fun _ => 0)))] H := hP.sub [0, 1] rfl
      have hD : va_D A [(to, .inr (9, [.ref sg, .int p1, .int p2])), (sg, .inl (cI, 81, .inl (fun _ => 0)))] := hD.sub [0, 1] (by decide) rfl
      refine lv_iconst (v := 1) hx hb dX9_renew_34 (by decide) ?_
      exact kt_rz (p1, p2, fun _ => 0) hx hb hr hlk hS dX9_renew_35 hP hD (by show ((1 : Int32) = 1 ∧ (2 ≤ p1.toInt ∧ p1.toInt ≤ 9 ∧ 2 ≤ p2.toInt ∧ p2.toInt ≤ 9) ∧ p1 = p1 ∧ p2 = p2 ∧ (fun _ => 0) = fun _ => 0) ∨ ((1 : Int32) = 0 ∧ ¬ (2 ≤ p1.toInt ∧ p1.toInt ≤ 9 ∧ 2 ≤ p2.toInt ∧ p2.toInt ≤ 9) ∧ p1 = ln ∧ p2 = wd ∧ (fun _ => 0) = fg); first | exact Or.inr ⟨rfl, fun h => (hw_1.f c_4) ⟨h.1, h.2.1⟩, rfl, rfl, rfl⟩ | exact Or.inr ⟨rfl, fun h => (hw_8.f c_11) ⟨h.2.2.1, h.2.2.2⟩, rfl, rfl, rfl⟩ | exact Or.inl ⟨rfl, ⟨(hw_1.t c_4).1, (hw_1.t c_4).2, (hw_8.t c_11).1, (hw_8.t c_11).2⟩, rfl, rfl, rfl⟩) rfl
    · have d_11 := c_11
      simp only [kt_lt, kt_le, kt_eq, kt_c0, kt_c1, kt_c2, kt_c3, kt_c4, kt_c8, kt_c9, kt_cm1, kt_c81, kt_c40, kt_c7, kt_c5, kt_c6, kt_c512, kt_c10, kt_c10000] at d_11
      refine lv_iconst (v := 0) hx hb dX9_renew_14 (by decide) ?_
      exact kt_rz (ln, wd, fg) hx hb hr hlk hS dX9_renew_15 hP hD (by show ((0 : Int32) = 1 ∧ (2 ≤ p1.toInt ∧ p1.toInt ≤ 9 ∧ 2 ≤ p2.toInt ∧ p2.toInt ≤ 9) ∧ ln = p1 ∧ wd = p2 ∧ fg = fun _ => 0) ∨ ((0 : Int32) = 0 ∧ ¬ (2 ≤ p1.toInt ∧ p1.toInt ≤ 9 ∧ 2 ≤ p2.toInt ∧ p2.toInt ≤ 9) ∧ ln = ln ∧ wd = wd ∧ fg = fg); first | exact Or.inr ⟨rfl, fun h => (hw_1.f c_4) ⟨h.1, h.2.1⟩, rfl, rfl, rfl⟩ | exact Or.inr ⟨rfl, fun h => (hw_8.f c_11) ⟨h.2.2.1, h.2.2.2⟩, rfl, rfl, rfl⟩ | exact Or.inl ⟨rfl, ⟨(hw_1.t c_4).1, (hw_1.t c_4).2, (hw_8.t c_11).1, (hw_8.t c_11).2⟩, rfl, rfl, rfl⟩) rfl

theorem iw_X9_tell_X9 : ∀ w ∈ wsX90, w ∈ wsX9_tell := fun _ h => kt_wp_X9_tell__X90 h
set_option maxHeartbeats 4000000 in
set_option maxRecDepth 100000 in
theorem c_X9_tell (l : Launch) (D : va_G) (cI cZ cB : ClassId) (sz : Nat) (to : Nat) (sg : Nat) (ln : Int32) (wd : Int32) (fg : Nat → Int32) (p1 : Int32) (p2 : Int32) (p3 : Int32) (hln : 2 ≤ ln.toInt ∧ ln.toInt ≤ 9) (hwd : 2 ≤ wd.toInt ∧ wd.toInt ≤ 9) : kt_Mi l yX9_tell wsX9_tell { frames := 0, cells := 0, slots := 0, locals := 0 } D (kt_ty cI cZ cB) [.ref to, .int p1, .int p2, .int p3] sz [(to, .inr (9, [.ref sg, .int ln, .int wd])), (sg, .inl (cI, 81, .inl fg))] (fun (r : Int32) (u : (Nat → Int32)) => (r = 1 ∧ (0 ≤ p1.toInt ∧ p1.toInt < ln.toInt ∧ 0 ≤ p2.toInt ∧ p2.toInt ≤ wd.toInt) ∧ u = kt_tl fg (p1.toInt * wd.toInt).toNat p2 p3 wd.toInt.toNat) ∨ (r = 0 ∧ ¬ (0 ≤ p1.toInt ∧ p1.toInt < ln.toInt ∧ 0 ≤ p2.toInt ∧ p2.toInt ≤ wd.toInt) ∧ u = fg)) (fun (u : (Nat → Int32)) => [(to, .inr (9, [.ref sg, .int ln, .int wd])), (sg, .inl (cI, 81, .inl u))]) 0 0 := by
  refine kt_Mi.of (cc := cX9_tell) (maxL := 5) (ret := some .boolean) (by decide) rfl (Nat.le_of_ble_eq_true rfl) ?_
  intro p e s m below meth c A ls H hAt hP hD hS hl
  obtain ⟨hx, hb, hr, hml, hown, hts, hN, hK, hlk, hnm, hA⟩ := hAt
  have hl : lv_has ls 5 [(0, .ref to), (1, .int p1), (2, .int p2), (3, .int p3)] := hl
  have hown : s.vm.findClass RX9 = some m.cls := hown
  refine lv_iload_n hx hb dX9_tell_0 rfl (lv_at hl 1 rfl) ?_
  refine lv_if_lt (tgt := 24) hx hb dX9_tell_1 (by decide) (fun c_1 => ?_) (fun c_1 => ?_)
  · have d_1 := c_1
    simp only [kt_lt, kt_le, kt_eq, kt_c0, kt_c1, kt_c2, kt_c3, kt_c4, kt_c8, kt_c9, kt_cm1, kt_c81, kt_c40, kt_c7, kt_c5, kt_c6, kt_c512, kt_c10, kt_c10000] at d_1
    refine lv_iconst (v := 0) hx hb dX9_tell_24 (by decide) ?_
    exact kt_rz fg hx hb hr hlk hS dX9_tell_25 hP hD (by show ((0 : Int32) = 1 ∧ (0 ≤ p1.toInt ∧ p1.toInt < ln.toInt ∧ 0 ≤ p2.toInt ∧ p2.toInt ≤ wd.toInt) ∧ fg = kt_tl fg (p1.toInt * wd.toInt).toNat p2 p3 wd.toInt.toNat) ∨ ((0 : Int32) = 0 ∧ ¬ (0 ≤ p1.toInt ∧ p1.toInt < ln.toInt ∧ 0 ≤ p2.toInt ∧ p2.toInt ≤ wd.toInt) ∧ fg = fg); first | exact Or.inr ⟨rfl, by omega, rfl⟩ | exact Or.inl ⟨rfl, by omega, by rw [hg, show wd.toInt.toNat = k by omega]⟩) rfl
  · have d_1 := c_1
    simp only [kt_lt, kt_le, kt_eq, kt_c0, kt_c1, kt_c2, kt_c3, kt_c4, kt_c8, kt_c9, kt_cm1, kt_c81, kt_c40, kt_c7, kt_c5, kt_c6, kt_c512, kt_c10, kt_c10000] at d_1
    refine lv_iload_n hx hb dX9_tell_4 rfl (lv_at hl 1 rfl) ?_
    refine lv_aload_n hx hb dX9_tell_5 rfl (lv_at hl 0 rfl) ?_
    refine va_get (D := D) (ci := 9) (C := RX9) (T := TX9) (N := 3) hx hb hts iw_X9_tell_X9 hown hK hP 0 rfl rfl 1 (by decide) (hts (.fieldLink RX9 15 "KingTable$Told" "lines" "I") (List.mem_cons_of_mem _ (List.mem_append_left _ (List.Mem.head _)))) (fun _ h9 => h9) rfl dX9_tell_6 ?_
    refine lv_icmp_ge (tgt := 24) hx hb dX9_tell_9 (by decide) (fun c_9 => ?_) (fun c_9 => ?_)
    · have d_9 := c_9
      simp only [kt_lt, kt_le, kt_eq, kt_c0, kt_c1, kt_c2, kt_c3, kt_c4, kt_c8, kt_c9, kt_cm1, kt_c81, kt_c40, kt_c7, kt_c5, kt_c6, kt_c512, kt_c10, kt_c10000] at d_9
      refine lv_iconst (v := 0) hx hb dX9_tell_24 (by decide) ?_
      exact kt_rz fg hx hb hr hlk hS dX9_tell_25 hP hD (by show ((0 : Int32) = 1 ∧ (0 ≤ p1.toInt ∧ p1.toInt < ln.toInt ∧ 0 ≤ p2.toInt ∧ p2.toInt ≤ wd.toInt) ∧ fg = kt_tl fg (p1.toInt * wd.toInt).toNat p2 p3 wd.toInt.toNat) ∨ ((0 : Int32) = 0 ∧ ¬ (0 ≤ p1.toInt ∧ p1.toInt < ln.toInt ∧ 0 ≤ p2.toInt ∧ p2.toInt ≤ wd.toInt) ∧ fg = fg); first | exact Or.inr ⟨rfl, by omega, rfl⟩ | exact Or.inl ⟨rfl, by omega, by rw [hg, show wd.toInt.toNat = k by omega]⟩) rfl
    · have d_9 := c_9
      simp only [kt_lt, kt_le, kt_eq, kt_c0, kt_c1, kt_c2, kt_c3, kt_c4, kt_c8, kt_c9, kt_cm1, kt_c81, kt_c40, kt_c7, kt_c5, kt_c6, kt_c512, kt_c10, kt_c10000] at d_9
      refine lv_iload_n hx hb dX9_tell_12 rfl (lv_at hl 2 rfl) ?_
      refine lv_if_lt (tgt := 24) hx hb dX9_tell_13 (by decide) (fun c_13 => ?_) (fun c_13 => ?_)
      · have d_13 := c_13
        simp only [kt_lt, kt_le, kt_eq, kt_c0, kt_c1, kt_c2, kt_c3, kt_c4, kt_c8, kt_c9, kt_cm1, kt_c81, kt_c40, kt_c7, kt_c5, kt_c6, kt_c512, kt_c10, kt_c10000] at d_13
        refine lv_iconst (v := 0) hx hb dX9_tell_24 (by decide) ?_
        exact kt_rz fg hx hb hr hlk hS dX9_tell_25 hP hD (by show ((0 : Int32) = 1 ∧ (0 ≤ p1.toInt ∧ p1.toInt < ln.toInt ∧ 0 ≤ p2.toInt ∧ p2.toInt ≤ wd.toInt) ∧ fg = kt_tl fg (p1.toInt * wd.toInt).toNat p2 p3 wd.toInt.toNat) ∨ ((0 : Int32) = 0 ∧ ¬ (0 ≤ p1.toInt ∧ p1.toInt < ln.toInt ∧ 0 ≤ p2.toInt ∧ p2.toInt ≤ wd.toInt) ∧ fg = fg); first | exact Or.inr ⟨rfl, by omega, rfl⟩ | exact Or.inl ⟨rfl, by omega, by rw [hg, show wd.toInt.toNat = k by omega]⟩) rfl
      · have d_13 := c_13
        simp only [kt_lt, kt_le, kt_eq, kt_c0, kt_c1, kt_c2, kt_c3, kt_c4, kt_c8, kt_c9, kt_cm1, kt_c81, kt_c40, kt_c7, kt_c5, kt_c6, kt_c512, kt_c10, kt_c10000] at d_13
        refine lv_iload_n hx hb dX9_tell_16 rfl (lv_at hl 2 rfl) ?_
        refine lv_aload_n hx hb dX9_tell_17 rfl (lv_at hl 0 rfl) ?_
        refine va_get (D := D) (ci := 9) (C := RX9) (T := TX9) (N := 3) hx hb hts iw_X9_tell_X9 hown hK hP 0 rfl rfl 2 (by decide) (hts (.fieldLink RX9 19 "KingTable$Told" "width" "I") (List.mem_cons_of_mem _ (List.mem_append_left _ (List.mem_cons_of_mem _ (List.Mem.head _))))) (fun _ h9 => h9) rfl dX9_tell_18 ?_
        refine lv_icmp_le (tgt := 26) hx hb dX9_tell_21 (by decide) (fun c_21 => ?_) (fun c_21 => ?_)
        · have d_21 := c_21
          simp only [kt_lt, kt_le, kt_eq, kt_c0, kt_c1, kt_c2, kt_c3, kt_c4, kt_c8, kt_c9, kt_cm1, kt_c81, kt_c40, kt_c7, kt_c5, kt_c6, kt_c512, kt_c10, kt_c10000] at d_21
          refine lv_iconst (v := 0) hx hb dX9_tell_26 (by decide) ?_
          refine lv_istore (lv' := [(4, .int 0), (0, .ref to), (1, .int p1), (2, .int p2), (3, .int p3)]) hx hb dX9_tell_27 hl (by decide) rfl (fun ls hl => ?_)
          refine kt_loop (σ := Nat × (Nat → Int32)) 29 5 (fun u => [(to, .inr (9, [.ref sg, .int ln, .int wd])), (sg, .inl (cI, 81, .inl u.2))]) (fun u => [(4, .int (nI u.1)), (0, .ref to), (1, .int p1), (2, .int p2), (3, .int p3)]) (fun n u => (u.1 ≤ 9 ∧ 9 < u.1 + n ∧ (u.1 : Int) ≤ wd.toInt) ∧ u.2 = kt_tl fg (p1.toInt * wd.toInt).toNat p2 p3 u.1) (fun u h => by omega) (fun n_29 ih_29 u hI H locs hP hD hS ls hl => ?_) (10) (0, fg) (by show (0 ≤ 9 ∧ 9 < 0 + 10 ∧ (0 : Int) ≤ wd.toInt) ∧ fg = kt_tl fg (p1.toInt * wd.toInt).toNat p2 p3 0; exact ⟨⟨by decide, by decide, by omega⟩, rfl⟩) hP hD hS (lv_sub hl [0, 1, 2, 3, 4] rfl)
          obtain ⟨k, g⟩ := u
          have hP : va_P D vwCl [(to, .inr (9, [.ref sg, .int ln, .int wd])), (sg, .inl (cI, 81, .inl g))] H := hP
          have hD : va_D A [(to, .inr (9, [.ref sg, .int ln, .int wd])), (sg, .inl (cI, 81, .inl g))] := hD
          have hl : lv_has ls 5 [(4, .int (nI k)), (0, .ref to), (1, .int p1), (2, .int p2), (3, .int p3)] := hl
          have hI : (k ≤ 9 ∧ 9 < k + (n_29 + 1) ∧ (k : Int) ≤ wd.toInt) ∧ g = kt_tl fg (p1.toInt * wd.toInt).toNat p2 p3 k := hI
          obtain ⟨hkb, hg⟩ := hI
          have hk0 := kt_nI (n := k) (by omega)
          refine lv_iload hx hb dX9_tell_29 (lv_at hl 0 rfl) ?_
          refine lv_aload_n hx hb dX9_tell_31 rfl (lv_at hl 1 rfl) ?_
          refine va_get (D := D) (ci := 9) (C := RX9) (T := TX9) (N := 3) hx hb hts iw_X9_tell_X9 hown hK hP 0 rfl rfl 2 (by decide) (hts (.fieldLink RX9 19 "KingTable$Told" "width" "I") (List.mem_cons_of_mem _ (List.mem_append_left _ (List.mem_cons_of_mem _ (List.Mem.head _))))) (fun _ h9 => h9) rfl dX9_tell_32 ?_
          refine lv_icmp_ge (tgt := 77) hx hb dX9_tell_35 (by decide) (fun c_35 => ?_) (fun c_35 => ?_)
          · have d_35 := c_35
            simp only [kt_lt, kt_le, kt_eq, kt_c0, kt_c1, kt_c2, kt_c3, kt_c4, kt_c8, kt_c9, kt_cm1, kt_c81, kt_c40, kt_c7, kt_c5, kt_c6, kt_c512, kt_c10, kt_c10000] at d_35
            refine lv_iconst (v := 1) hx hb dX9_tell_77 (by decide) ?_
            exact kt_rz g hx hb hr hlk hS dX9_tell_78 hP hD (by show ((1 : Int32) = 1 ∧ (0 ≤ p1.toInt ∧ p1.toInt < ln.toInt ∧ 0 ≤ p2.toInt ∧ p2.toInt ≤ wd.toInt) ∧ g = kt_tl fg (p1.toInt * wd.toInt).toNat p2 p3 wd.toInt.toNat) ∨ ((1 : Int32) = 0 ∧ ¬ (0 ≤ p1.toInt ∧ p1.toInt < ln.toInt ∧ 0 ≤ p2.toInt ∧ p2.toInt ≤ wd.toInt) ∧ g = fg); first | exact Or.inr ⟨rfl, by omega, rfl⟩ | exact Or.inl ⟨rfl, by omega, by rw [hg, show wd.toInt.toNat = k by omega]⟩) rfl
          · have d_35 := c_35
            simp only [kt_lt, kt_le, kt_eq, kt_c0, kt_c1, kt_c2, kt_c3, kt_c4, kt_c8, kt_c9, kt_cm1, kt_c81, kt_c40, kt_c7, kt_c5, kt_c6, kt_c512, kt_c10, kt_c10000] at d_35
            have hF := kt_fld (r := p1.toInt) (c := (k : Int)) (L := ln.toInt) (w := wd.toInt) (by omega) (by omega) hwd (by omega)
            refine lv_aload_n hx hb dX9_tell_38 rfl (lv_at hl 1 rfl) ?_
            refine va_get (D := D) (ci := 9) (C := RX9) (T := TX9) (N := 3) hx hb hts iw_X9_tell_X9 hown hK hP 0 rfl rfl 0 (by decide) (hts (.fieldLink RX9 9 "KingTable$Told" "signs" "[I") (List.mem_cons_of_mem _ (List.mem_append_left _ (List.mem_cons_of_mem _ (List.mem_cons_of_mem _ (List.Mem.head _)))))) (fun _ h9 => h9) rfl dX9_tell_39 ?_
            refine lv_iload_n hx hb dX9_tell_42 rfl (lv_at hl 2 rfl) ?_
            refine lv_aload_n hx hb dX9_tell_43 rfl (lv_at hl 1 rfl) ?_
            refine va_get (D := D) (ci := 9) (C := RX9) (T := TX9) (N := 3) hx hb hts iw_X9_tell_X9 hown hK hP 0 rfl rfl 2 (by decide) (hts (.fieldLink RX9 19 "KingTable$Told" "width" "I") (List.mem_cons_of_mem _ (List.mem_append_left _ (List.mem_cons_of_mem _ (List.Mem.head _))))) (fun _ h9 => h9) rfl dX9_tell_44 ?_
            refine lv_imul hx hb dX9_tell_47 ?_
            refine lv_topi (fun t_47 et_47 => ?_)
            obtain ⟨k_47, hk_47, hm_47, hM_47⟩ := kt_mulxk et_47
            refine lv_iload hx hb dX9_tell_48 (lv_at hl 0 rfl) ?_
            refine lv_iadd hx hb dX9_tell_50 ?_
            refine lv_topi (fun t_50 et_50 => ?_)
            obtain ⟨k_50, hk_50, hm_50, hM_50⟩ := kt_addk et_50
            refine lv_iload hx hb dX9_tell_51 (lv_at hl 0 rfl) ?_
            refine lv_iload_n hx hb dX9_tell_53 rfl (lv_at hl 3 rfl) ?_
            refine lv_icmp_ge (tgt := 69) hx hb dX9_tell_54 (by decide) (fun c_54 => ?_) (fun c_54 => ?_)
            · have d_54 := c_54
              simp only [kt_lt, kt_le, kt_eq, kt_c0, kt_c1, kt_c2, kt_c3, kt_c4, kt_c8, kt_c9, kt_cm1, kt_c81, kt_c40, kt_c7, kt_c5, kt_c6, kt_c512, kt_c10, kt_c10000] at d_54
              refine lv_iconst (v := 0) hx hb dX9_tell_69 (by decide) ?_
              have hi_1 : vp_in t_50 81 := by exact kt_in (by omega) (by omega)
              refine va_iast hx hb hK hP hD hS 1 0 rfl rfl hi_1 dX9_tell_70 (fun H locs hP hD hS => ?_)
              have hP : va_P D vwCl [(to, .inr (9, [.ref sg, .int ln, .int wd])), (sg, .inl (cI, 81, .inl (upd g t_50.toNatClampNeg 0)))] H := hP
              have hD : va_D A [(to, .inr (9, [.ref sg, .int ln, .int wd])), (sg, .inl (cI, 81, .inl (upd g t_50.toNatClampNeg 0)))] := hD
              refine lv_iinc (v := nI (k + 1)) (lv' := [(4, .int (nI (k + 1))), (0, .ref to), (1, .int p1), (2, .int p2), (3, .int p3)]) hx hb dX9_tell_71 hl (k := 0) rfl (nI_1 _) (by decide) rfl (fun ls hl => ?_)
              refine lv_goto (tgt := 29) hx hb dX9_tell_74 (by decide) ?_
              exact ih_29 ((k + 1), (upd g t_50.toNatClampNeg 0)) (by show ((k + 1) ≤ 9 ∧ 9 < (k + 1) + n_29 ∧ ((k + 1) : Int) ≤ wd.toInt) ∧ (upd g t_50.toNatClampNeg 0) = kt_tl fg (p1.toInt * wd.toInt).toNat p2 p3 (k + 1); exact ⟨by omega, by rw [kt_clamp (n := (p1.toInt * wd.toInt).toNat + k) (by omega), hg]; show _ = upd _ _ _; first | rw [if_pos (Int32.not_le.mp c_54), ← et_61, ← et_65] | rw [if_neg (by rw [Int32.not_lt]; exact c_54)]⟩) H _ hP hD hS ls (lv_sub hl [0, 1, 2, 3, 4] rfl)
            · have d_54 := c_54
              simp only [kt_lt, kt_le, kt_eq, kt_c0, kt_c1, kt_c2, kt_c3, kt_c4, kt_c8, kt_c9, kt_cm1, kt_c81, kt_c40, kt_c7, kt_c5, kt_c6, kt_c512, kt_c10, kt_c10000] at d_54
              refine lv_iload_n hx hb dX9_tell_57 rfl (lv_at hl 4 rfl) ?_
              refine lv_iconst (v := 3) hx hb dX9_tell_58 (by decide) ?_
              refine lv_iload hx hb dX9_tell_59 (lv_at hl 0 rfl) ?_
              refine lv_imul hx hb dX9_tell_61 ?_
              refine lv_topi (fun t_61 et_61 => ?_)
              obtain ⟨k_61, hk_61, hm_61, hM_61⟩ := kt_mulk (C := 3) (et_61.trans (Int32.mul_comm _ _)) (by decide)
              try simp only [kt_c0, kt_c1, kt_c2, kt_c3, kt_c4, kt_c8, kt_c9, kt_cm1, kt_c81, kt_c40, kt_c7, kt_c5, kt_c6, kt_c512, kt_c10, kt_c10000] at hk_61
              refine lv_ishr hx hb dX9_tell_62 ?_
              refine lv_bipush (v := 7) hx hb dX9_tell_63 (by decide) ?_
              refine lv_iand hx hb dX9_tell_65 ?_
              refine lv_topi (fun t_65 et_65 => ?_)
              have ha_65 : 0 ≤ t_65.toInt ∧ t_65.toInt ≤ 7 := by rw [et_65]; exact kt_and7 _
              refine lv_goto (tgt := 70) hx hb dX9_tell_66 (by decide) ?_
              have hi_2 : vp_in t_50 81 := by exact kt_in (by omega) (by omega)
              refine va_iast hx hb hK hP hD hS 1 0 rfl rfl hi_2 dX9_tell_70 (fun H locs hP hD hS => ?_)
              have hP : va_P D vwCl [(to, .inr (9, [.ref sg, .int ln, .int wd])), (sg, .inl (cI, 81, .inl (upd g t_50.toNatClampNeg t_65)))] H := hP
              have hD : va_D A [(to, .inr (9, [.ref sg, .int ln, .int wd])), (sg, .inl (cI, 81, .inl (upd g t_50.toNatClampNeg t_65)))] := hD
              refine lv_iinc (v := nI (k + 1)) (lv' := [(4, .int (nI (k + 1))), (0, .ref to), (1, .int p1), (2, .int p2), (3, .int p3)]) hx hb dX9_tell_71 hl (k := 0) rfl (nI_1 _) (by decide) rfl (fun ls hl => ?_)
              refine lv_goto (tgt := 29) hx hb dX9_tell_74 (by decide) ?_
              exact ih_29 ((k + 1), (upd g t_50.toNatClampNeg t_65)) (by show ((k + 1) ≤ 9 ∧ 9 < (k + 1) + n_29 ∧ ((k + 1) : Int) ≤ wd.toInt) ∧ (upd g t_50.toNatClampNeg t_65) = kt_tl fg (p1.toInt * wd.toInt).toNat p2 p3 (k + 1); exact ⟨by omega, by rw [kt_clamp (n := (p1.toInt * wd.toInt).toNat + k) (by omega), hg]; show _ = upd _ _ _; first | rw [if_pos (Int32.not_le.mp c_54), ← et_61, ← et_65] | rw [if_neg (by rw [Int32.not_lt]; exact c_54)]⟩) H _ hP hD hS ls (lv_sub hl [0, 1, 2, 3, 4] rfl)
        · have d_21 := c_21
          simp only [kt_lt, kt_le, kt_eq, kt_c0, kt_c1, kt_c2, kt_c3, kt_c4, kt_c8, kt_c9, kt_cm1, kt_c81, kt_c40, kt_c7, kt_c5, kt_c6, kt_c512, kt_c10, kt_c10000] at d_21
          refine lv_iconst (v := 0) hx hb dX9_tell_24 (by decide) ?_
          exact kt_rz fg hx hb hr hlk hS dX9_tell_25 hP hD (by show ((0 : Int32) = 1 ∧ (0 ≤ p1.toInt ∧ p1.toInt < ln.toInt ∧ 0 ≤ p2.toInt ∧ p2.toInt ≤ wd.toInt) ∧ fg = kt_tl fg (p1.toInt * wd.toInt).toNat p2 p3 wd.toInt.toNat) ∨ ((0 : Int32) = 0 ∧ ¬ (0 ≤ p1.toInt ∧ p1.toInt < ln.toInt ∧ 0 ≤ p2.toInt ∧ p2.toInt ≤ wd.toInt) ∧ fg = fg); first | exact Or.inr ⟨rfl, by omega, rfl⟩ | exact Or.inl ⟨rfl, by omega, by rw [hg, show wd.toInt.toNat = k by omega]⟩) rfl

theorem iw_X1_change_X1 : ∀ w ∈ wsX10, w ∈ wsX1_change := fun _ h => kt_wp_X1_change__X10 h
set_option maxHeartbeats 4000000 in
set_option maxRecDepth 100000 in
theorem c_X1_change (l : Launch) (D : va_G) (cI cZ cB : ClassId) (sz : Nat) (la : Nat) (lg : Int32) (lh : Int32) (lt : Int32) (lr : Int32) (lc : Int32) (p1 : Int32) (p2 : Int32) (p3 : Int32) (p4 : Int32) (p5 : Int32) (hz : 0 ≤ p3.toInt ∧ p3.toInt ≤ 1) : kt_Mi l yX1_change wsX1_change { frames := 0, cells := 0, slots := 0, locals := 0 } D (kt_ty cI cZ cB) [.ref la, .int p1, .int p2, .int p3, .int p4, .int p5] sz [(la, .inr (1, [.int lg, .int lh, .int lt, .int lr, .int lc]))] (fun (r : Int32) (u : Int32 × Int32 × Int32 × Int32 × Int32) => (r = 1 ∧ ((p1.toInt = 0 ∨ p1.toInt = 1) ∧ (p2.toInt = 2 ∨ p2.toInt = 4) ∧ 0 ≤ p4.toInt ∧ p4.toInt ≤ 8 ∧ (p5.toInt = 0 ∨ p5.toInt = 1)) ∧ u.1 = p1 ∧ u.2.1 = p2 ∧ u.2.2.1 = p3 ∧ u.2.2.2.1 = p4 ∧ u.2.2.2.2 = p5) ∨ (r = 0 ∧ ¬ ((p1.toInt = 0 ∨ p1.toInt = 1) ∧ (p2.toInt = 2 ∨ p2.toInt = 4) ∧ 0 ≤ p4.toInt ∧ p4.toInt ≤ 8 ∧ (p5.toInt = 0 ∨ p5.toInt = 1)) ∧ u.1 = lg ∧ u.2.1 = lh ∧ u.2.2.1 = lt ∧ u.2.2.2.1 = lr ∧ u.2.2.2.2 = lc)) (fun (u : Int32 × Int32 × Int32 × Int32 × Int32) => [(la, .inr (1, [.int u.1, .int u.2.1, .int u.2.2.1, .int u.2.2.2.1, .int u.2.2.2.2]))]) 0 0 := by
  refine kt_Mi.of (cc := cX1_change) (maxL := 7) (ret := some .boolean) (by decide) rfl (Nat.le_of_ble_eq_true rfl) ?_
  intro p e s m below meth c A ls H hAt hP hD hS hl
  obtain ⟨hx, hb, hr, hml, hown, hts, hN, hK, hlk, hnm, hA⟩ := hAt
  have hl : lv_has ls 7 [(0, .ref la), (1, .int p1), (2, .int p2), (3, .int p3), (4, .int p4), (5, .int p5)] := hl
  have hown : s.vm.findClass RX1 = some m.cls := hown
  refine lv_iload_n hx hb dX1_change_0 rfl (lv_at hl 1 rfl) ?_
  refine kt_join (σ := Unit) 9 7 (fun u => [(la, .inr (1, [.int lg, .int lh, .int lt, .int lr, .int lc]))]) (fun u => [(0, .ref la), (1, .int p1), (2, .int p2), (3, .int p3), (4, .int p4), (5, .int p5)]) (fun u => []) (fun u => p1.toInt = 0 ∨ p1.toInt = 1) (D := D) (A := A) (H0 := s.heap) (fun u hI H locs hP hD hS ls hl => ?_) (fun j_9 => ?_)
  · have hP : va_P D vwCl [(la, .inr (1, [.int lg, .int lh, .int lt, .int lr, .int lc]))] H := hP
    have hD : va_D A [(la, .inr (1, [.int lg, .int lh, .int lt, .int lr, .int lc]))] := hD
    have hl : lv_has ls 7 [(0, .ref la), (1, .int p1), (2, .int p2), (3, .int p3), (4, .int p4), (5, .int p5)] := hl
    have hI : p1.toInt = 0 ∨ p1.toInt = 1 := hI
    have hI9 := hI
    refine lv_iload_n hx hb dX1_change_9 rfl (lv_at hl 2 rfl) ?_
    refine lv_iconst (v := 2) hx hb dX1_change_10 (by decide) ?_
    refine kt_join (σ := Unit) 19 7 (fun u => [(la, .inr (1, [.int lg, .int lh, .int lt, .int lr, .int lc]))]) (fun u => [(0, .ref la), (1, .int p1), (2, .int p2), (3, .int p3), (4, .int p4), (5, .int p5)]) (fun u => []) (fun u => p2.toInt = 2 ∨ p2.toInt = 4) (D := D) (A := A) (H0 := s.heap) (fun u hI H locs hP hD hS ls hl => ?_) (fun j_19 => ?_)
    · have hP : va_P D vwCl [(la, .inr (1, [.int lg, .int lh, .int lt, .int lr, .int lc]))] H := hP
      have hD : va_D A [(la, .inr (1, [.int lg, .int lh, .int lt, .int lr, .int lc]))] := hD
      have hl : lv_has ls 7 [(0, .ref la), (1, .int p1), (2, .int p2), (3, .int p3), (4, .int p4), (5, .int p5)] := hl
      have hI : p2.toInt = 2 ∨ p2.toInt = 4 := hI
      have hI19 := hI
      refine lv_iload hx hb dX1_change_19 (lv_at hl 4 rfl) ?_
      refine lv_if_lt (tgt := 46) hx hb dX1_change_21 (by decide) (fun c_21 => ?_) (fun c_21 => ?_)
      · have d_21 := c_21
        simp only [kt_lt, kt_le, kt_eq, kt_c0, kt_c1, kt_c2, kt_c3, kt_c4, kt_c8, kt_c9, kt_cm1, kt_c81, kt_c40, kt_c7, kt_c5, kt_c6, kt_c512, kt_c10, kt_c10000] at d_21
        refine lv_iconst (v := 0) hx hb dX1_change_46 (by decide) ?_
        refine lv_istore (lv' := [(6, .int 0), (0, .ref la), (1, .int p1), (2, .int p2), (3, .int p3), (4, .int p4), (5, .int p5)]) hx hb dX1_change_47 hl (by decide) rfl (fun ls hl => ?_)
        refine lv_iload hx hb dX1_change_49 (lv_at hl 0 rfl) ?_
        refine lv_if_ne (tgt := 56) hx hb dX1_change_51 (by decide) (fun c_51 => absurd c_51 (by decide)) (fun c_51 => ?_)
        refine lv_iconst (v := 0) hx hb dX1_change_54 (by decide) ?_
        exact kt_rz (lg, lh, lt, lr, lc) hx hb hr hlk hS dX1_change_55 hP hD (by show ((0 : Int32) = 1 ∧ ((p1.toInt = 0 ∨ p1.toInt = 1) ∧ (p2.toInt = 2 ∨ p2.toInt = 4) ∧ 0 ≤ p4.toInt ∧ p4.toInt ≤ 8 ∧ (p5.toInt = 0 ∨ p5.toInt = 1)) ∧ lg = p1 ∧ lh = p2 ∧ lt = p3 ∧ lr = p4 ∧ lc = p5) ∨ ((0 : Int32) = 0 ∧ ¬ ((p1.toInt = 0 ∨ p1.toInt = 1) ∧ (p2.toInt = 2 ∨ p2.toInt = 4) ∧ 0 ≤ p4.toInt ∧ p4.toInt ≤ 8 ∧ (p5.toInt = 0 ∨ p5.toInt = 1)) ∧ lg = lg ∧ lh = lh ∧ lt = lt ∧ lr = lr ∧ lc = lc); first | exact Or.inr ⟨rfl, by omega, rfl, rfl, rfl, rfl, rfl⟩ | exact Or.inl ⟨rfl, by omega, rfl, rfl, rfl, rfl, rfl⟩) rfl
      · have d_21 := c_21
        simp only [kt_lt, kt_le, kt_eq, kt_c0, kt_c1, kt_c2, kt_c3, kt_c4, kt_c8, kt_c9, kt_cm1, kt_c81, kt_c40, kt_c7, kt_c5, kt_c6, kt_c512, kt_c10, kt_c10000] at d_21
        refine lv_iload hx hb dX1_change_24 (lv_at hl 4 rfl) ?_
        refine lv_bipush (v := 8) hx hb dX1_change_26 (by decide) ?_
        refine lv_icmp_gt (tgt := 46) hx hb dX1_change_28 (by decide) (fun c_28 => ?_) (fun c_28 => ?_)
        · have d_28 := c_28
          simp only [kt_lt, kt_le, kt_eq, kt_c0, kt_c1, kt_c2, kt_c3, kt_c4, kt_c8, kt_c9, kt_cm1, kt_c81, kt_c40, kt_c7, kt_c5, kt_c6, kt_c512, kt_c10, kt_c10000] at d_28
          refine lv_iconst (v := 0) hx hb dX1_change_46 (by decide) ?_
          refine lv_istore (lv' := [(6, .int 0), (0, .ref la), (1, .int p1), (2, .int p2), (3, .int p3), (4, .int p4), (5, .int p5)]) hx hb dX1_change_47 hl (by decide) rfl (fun ls hl => ?_)
          refine lv_iload hx hb dX1_change_49 (lv_at hl 0 rfl) ?_
          refine lv_if_ne (tgt := 56) hx hb dX1_change_51 (by decide) (fun c_51 => absurd c_51 (by decide)) (fun c_51 => ?_)
          refine lv_iconst (v := 0) hx hb dX1_change_54 (by decide) ?_
          exact kt_rz (lg, lh, lt, lr, lc) hx hb hr hlk hS dX1_change_55 hP hD (by show ((0 : Int32) = 1 ∧ ((p1.toInt = 0 ∨ p1.toInt = 1) ∧ (p2.toInt = 2 ∨ p2.toInt = 4) ∧ 0 ≤ p4.toInt ∧ p4.toInt ≤ 8 ∧ (p5.toInt = 0 ∨ p5.toInt = 1)) ∧ lg = p1 ∧ lh = p2 ∧ lt = p3 ∧ lr = p4 ∧ lc = p5) ∨ ((0 : Int32) = 0 ∧ ¬ ((p1.toInt = 0 ∨ p1.toInt = 1) ∧ (p2.toInt = 2 ∨ p2.toInt = 4) ∧ 0 ≤ p4.toInt ∧ p4.toInt ≤ 8 ∧ (p5.toInt = 0 ∨ p5.toInt = 1)) ∧ lg = lg ∧ lh = lh ∧ lt = lt ∧ lr = lr ∧ lc = lc); first | exact Or.inr ⟨rfl, by omega, rfl, rfl, rfl, rfl, rfl⟩ | exact Or.inl ⟨rfl, by omega, rfl, rfl, rfl, rfl, rfl⟩) rfl
        · have d_28 := c_28
          simp only [kt_lt, kt_le, kt_eq, kt_c0, kt_c1, kt_c2, kt_c3, kt_c4, kt_c8, kt_c9, kt_cm1, kt_c81, kt_c40, kt_c7, kt_c5, kt_c6, kt_c512, kt_c10, kt_c10000] at d_28
          refine lv_iload hx hb dX1_change_31 (lv_at hl 5 rfl) ?_
          refine kt_join (σ := Unit) 42 7 (fun u => [(la, .inr (1, [.int lg, .int lh, .int lt, .int lr, .int lc]))]) (fun u => [(0, .ref la), (1, .int p1), (2, .int p2), (3, .int p3), (4, .int p4), (5, .int p5)]) (fun u => []) (fun u => p5.toInt = 0 ∨ p5.toInt = 1) (D := D) (A := A) (H0 := s.heap) (fun u hI H locs hP hD hS ls hl => ?_) (fun j_42 => ?_)
          · have hP : va_P D vwCl [(la, .inr (1, [.int lg, .int lh, .int lt, .int lr, .int lc]))] H := hP
            have hD : va_D A [(la, .inr (1, [.int lg, .int lh, .int lt, .int lr, .int lc]))] := hD
            have hl : lv_has ls 7 [(0, .ref la), (1, .int p1), (2, .int p2), (3, .int p3), (4, .int p4), (5, .int p5)] := hl
            have hI : p5.toInt = 0 ∨ p5.toInt = 1 := hI
            have hI42 := hI
            refine lv_iconst (v := 1) hx hb dX1_change_42 (by decide) ?_
            refine lv_goto (tgt := 47) hx hb dX1_change_43 (by decide) ?_
            refine lv_istore (lv' := [(6, .int 1), (0, .ref la), (1, .int p1), (2, .int p2), (3, .int p3), (4, .int p4), (5, .int p5)]) hx hb dX1_change_47 hl (by decide) rfl (fun ls hl => ?_)
            refine lv_iload hx hb dX1_change_49 (lv_at hl 0 rfl) ?_
            refine lv_if_ne (tgt := 56) hx hb dX1_change_51 (by decide) (fun c_51 => ?_) (fun c_51 => absurd c_51 (by decide))
            refine lv_aload_n hx hb dX1_change_56 rfl (lv_at hl 1 rfl) ?_
            refine lv_iload_n hx hb dX1_change_57 rfl (lv_at hl 2 rfl) ?_
            refine va_put (D := D) (ci := 1) (v := .int p1) (ty := .int) (C := RX1) (T := TX1) (N := 5) hx hb hts iw_X1_change_X1 tyX1 tyX1_ok nmX1 hown hK hP hD hS 0 rfl rfl 0 (by decide) (hts (.fieldLink RX1 7 "KingTable$Laws" "goal" "I") (List.mem_cons_of_mem _ (List.mem_append_left _ (List.Mem.head _)))) (fun _ h9 => h9) rfl (by decide +kernel) rfl rfl (Nat.le_of_ble_eq_true rfl) dX1_change_58 (fun H locs hP hD hS => ?_)
            have hP : va_P D vwCl [(la, .inr (1, [.int p1, .int lh, .int lt, .int lr, .int lc]))] H := hP
            have hD : va_D A [(la, .inr (1, [.int p1, .int lh, .int lt, .int lr, .int lc]))] := hD
            refine lv_aload_n hx hb dX1_change_61 rfl (lv_at hl 1 rfl) ?_
            refine lv_iload_n hx hb dX1_change_62 rfl (lv_at hl 3 rfl) ?_
            refine va_put (D := D) (ci := 1) (v := .int p2) (ty := .int) (C := RX1) (T := TX1) (N := 5) hx hb hts iw_X1_change_X1 tyX1 tyX1_ok nmX1 hown hK hP hD hS 0 rfl rfl 1 (by decide) (hts (.fieldLink RX1 13 "KingTable$Laws" "hard" "I") (List.mem_cons_of_mem _ (List.mem_append_left _ (List.mem_cons_of_mem _ (List.Mem.head _))))) (fun _ h9 => h9) rfl (by decide +kernel) rfl rfl (Nat.le_of_ble_eq_true rfl) dX1_change_63 (fun H locs hP hD hS => ?_)
            have hP : va_P D vwCl [(la, .inr (1, [.int p1, .int p2, .int lt, .int lr, .int lc]))] H := hP
            have hD : va_D A [(la, .inr (1, [.int p1, .int p2, .int lt, .int lr, .int lc]))] := hD
            refine lv_aload_n hx hb dX1_change_66 rfl (lv_at hl 1 rfl) ?_
            refine lv_iload_n hx hb dX1_change_67 rfl (lv_at hl 4 rfl) ?_
            refine va_put (D := D) (ci := 1) (v := .int p3) (ty := .boolean) (C := RX1) (T := TX1) (N := 5) hx hb hts iw_X1_change_X1 tyX1 tyX1_ok nmX1 hown hK hP hD hS 0 rfl rfl 2 (by decide) (hts (.fieldLink RX1 16 "KingTable$Laws" "kingTakes" "Z") (List.mem_cons_of_mem _ (List.mem_append_left _ (List.mem_cons_of_mem _ (List.mem_cons_of_mem _ (List.Mem.head _)))))) (fun _ h9 => h9) rfl (by decide +kernel) (by exact kt_z hz.1 hz.2) (by exact kt_zf hz.1 hz.2) (Nat.le_of_ble_eq_true rfl) dX1_change_68 (fun H locs hP hD hS => ?_)
            have hP : va_P D vwCl [(la, .inr (1, [.int p1, .int p2, .int p3, .int lr, .int lc]))] H := hP
            have hD : va_D A [(la, .inr (1, [.int p1, .int p2, .int p3, .int lr, .int lc]))] := hD
            refine lv_aload_n hx hb dX1_change_71 rfl (lv_at hl 1 rfl) ?_
            refine lv_iload hx hb dX1_change_72 (lv_at hl 5 rfl) ?_
            refine va_put (D := D) (ci := 1) (v := .int p4) (ty := .int) (C := RX1) (T := TX1) (N := 5) hx hb hts iw_X1_change_X1 tyX1 tyX1_ok nmX1 hown hK hP hD hS 0 rfl rfl 3 (by decide) (hts (.fieldLink RX1 20 "KingTable$Laws" "reach" "I") (List.mem_cons_of_mem _ (List.mem_append_left _ (List.mem_cons_of_mem _ (List.mem_cons_of_mem _ (List.mem_cons_of_mem _ (List.Mem.head _))))))) (fun _ h9 => h9) rfl (by decide +kernel) rfl rfl (Nat.le_of_ble_eq_true rfl) dX1_change_74 (fun H locs hP hD hS => ?_)
            have hP : va_P D vwCl [(la, .inr (1, [.int p1, .int p2, .int p3, .int p4, .int lc]))] H := hP
            have hD : va_D A [(la, .inr (1, [.int p1, .int p2, .int p3, .int p4, .int lc]))] := hD
            refine lv_aload_n hx hb dX1_change_77 rfl (lv_at hl 1 rfl) ?_
            refine lv_iload hx hb dX1_change_78 (lv_at hl 6 rfl) ?_
            refine va_put (D := D) (ci := 1) (v := .int p5) (ty := .int) (C := RX1) (T := TX1) (N := 5) hx hb hts iw_X1_change_X1 tyX1 tyX1_ok nmX1 hown hK hP hD hS 0 rfl rfl 4 (by decide) (hts (.fieldLink RX1 23 "KingTable$Laws" "comeback" "I") (List.mem_cons_of_mem _ (List.mem_append_left _ (List.mem_cons_of_mem _ (List.mem_cons_of_mem _ (List.mem_cons_of_mem _ (List.mem_cons_of_mem _ (List.Mem.head _)))))))) (fun _ h9 => h9) rfl (by decide +kernel) rfl rfl (Nat.le_of_ble_eq_true rfl) dX1_change_80 (fun H locs hP hD hS => ?_)
            have hP : va_P D vwCl [(la, .inr (1, [.int p1, .int p2, .int p3, .int p4, .int p5]))] H := hP
            have hD : va_D A [(la, .inr (1, [.int p1, .int p2, .int p3, .int p4, .int p5]))] := hD
            refine lv_iconst (v := 1) hx hb dX1_change_83 (by decide) ?_
            exact kt_rz (p1, p2, p3, p4, p5) hx hb hr hlk hS dX1_change_84 hP hD (by show ((1 : Int32) = 1 ∧ ((p1.toInt = 0 ∨ p1.toInt = 1) ∧ (p2.toInt = 2 ∨ p2.toInt = 4) ∧ 0 ≤ p4.toInt ∧ p4.toInt ≤ 8 ∧ (p5.toInt = 0 ∨ p5.toInt = 1)) ∧ p1 = p1 ∧ p2 = p2 ∧ p3 = p3 ∧ p4 = p4 ∧ p5 = p5) ∨ ((1 : Int32) = 0 ∧ ¬ ((p1.toInt = 0 ∨ p1.toInt = 1) ∧ (p2.toInt = 2 ∨ p2.toInt = 4) ∧ 0 ≤ p4.toInt ∧ p4.toInt ≤ 8 ∧ (p5.toInt = 0 ∨ p5.toInt = 1)) ∧ p1 = lg ∧ p2 = lh ∧ p3 = lt ∧ p4 = lr ∧ p5 = lc); first | exact Or.inr ⟨rfl, by omega, rfl, rfl, rfl, rfl, rfl⟩ | exact Or.inl ⟨rfl, by omega, rfl, rfl, rfl, rfl, rfl⟩) rfl
          refine lv_if_eq (tgt := 42) hx hb dX1_change_33 (by decide) (fun c_33 => ?_) (fun c_33 => ?_)
          · have d_33 := c_33
            simp only [kt_lt, kt_le, kt_eq, kt_c0, kt_c1, kt_c2, kt_c3, kt_c4, kt_c8, kt_c9, kt_cm1, kt_c81, kt_c40, kt_c7, kt_c5, kt_c6, kt_c512, kt_c10, kt_c10000] at d_33
            exact j_42 () (by show p5.toInt = 0 ∨ p5.toInt = 1; omega) H _ hP hD hS ls (lv_sub hl [0, 1, 2, 3, 4, 5] rfl)
          · have d_33 := c_33
            simp only [kt_lt, kt_le, kt_eq, kt_c0, kt_c1, kt_c2, kt_c3, kt_c4, kt_c8, kt_c9, kt_cm1, kt_c81, kt_c40, kt_c7, kt_c5, kt_c6, kt_c512, kt_c10, kt_c10000] at d_33
            refine lv_iload hx hb dX1_change_36 (lv_at hl 5 rfl) ?_
            refine lv_iconst (v := 1) hx hb dX1_change_38 (by decide) ?_
            refine lv_icmp_ne (tgt := 46) hx hb dX1_change_39 (by decide) (fun c_39 => ?_) (fun c_39 => ?_)
            · have d_39 := c_39
              simp only [kt_lt, kt_le, kt_eq, kt_c0, kt_c1, kt_c2, kt_c3, kt_c4, kt_c8, kt_c9, kt_cm1, kt_c81, kt_c40, kt_c7, kt_c5, kt_c6, kt_c512, kt_c10, kt_c10000] at d_39
              refine lv_iconst (v := 0) hx hb dX1_change_46 (by decide) ?_
              refine lv_istore (lv' := [(6, .int 0), (0, .ref la), (1, .int p1), (2, .int p2), (3, .int p3), (4, .int p4), (5, .int p5)]) hx hb dX1_change_47 hl (by decide) rfl (fun ls hl => ?_)
              refine lv_iload hx hb dX1_change_49 (lv_at hl 0 rfl) ?_
              refine lv_if_ne (tgt := 56) hx hb dX1_change_51 (by decide) (fun c_51 => absurd c_51 (by decide)) (fun c_51 => ?_)
              refine lv_iconst (v := 0) hx hb dX1_change_54 (by decide) ?_
              exact kt_rz (lg, lh, lt, lr, lc) hx hb hr hlk hS dX1_change_55 hP hD (by show ((0 : Int32) = 1 ∧ ((p1.toInt = 0 ∨ p1.toInt = 1) ∧ (p2.toInt = 2 ∨ p2.toInt = 4) ∧ 0 ≤ p4.toInt ∧ p4.toInt ≤ 8 ∧ (p5.toInt = 0 ∨ p5.toInt = 1)) ∧ lg = p1 ∧ lh = p2 ∧ lt = p3 ∧ lr = p4 ∧ lc = p5) ∨ ((0 : Int32) = 0 ∧ ¬ ((p1.toInt = 0 ∨ p1.toInt = 1) ∧ (p2.toInt = 2 ∨ p2.toInt = 4) ∧ 0 ≤ p4.toInt ∧ p4.toInt ≤ 8 ∧ (p5.toInt = 0 ∨ p5.toInt = 1)) ∧ lg = lg ∧ lh = lh ∧ lt = lt ∧ lr = lr ∧ lc = lc); first | exact Or.inr ⟨rfl, by omega, rfl, rfl, rfl, rfl, rfl⟩ | exact Or.inl ⟨rfl, by omega, rfl, rfl, rfl, rfl, rfl⟩) rfl
            · have d_39 := c_39
              simp only [kt_lt, kt_le, kt_eq, kt_c0, kt_c1, kt_c2, kt_c3, kt_c4, kt_c8, kt_c9, kt_cm1, kt_c81, kt_c40, kt_c7, kt_c5, kt_c6, kt_c512, kt_c10, kt_c10000] at d_39
              exact j_42 () (by show p5.toInt = 0 ∨ p5.toInt = 1; omega) H _ hP hD hS ls (lv_sub hl [0, 1, 2, 3, 4, 5] rfl)
    refine lv_icmp_eq (tgt := 19) hx hb dX1_change_11 (by decide) (fun c_11 => ?_) (fun c_11 => ?_)
    · have d_11 := c_11
      simp only [kt_lt, kt_le, kt_eq, kt_c0, kt_c1, kt_c2, kt_c3, kt_c4, kt_c8, kt_c9, kt_cm1, kt_c81, kt_c40, kt_c7, kt_c5, kt_c6, kt_c512, kt_c10, kt_c10000] at d_11
      exact j_19 () (by show p2.toInt = 2 ∨ p2.toInt = 4; omega) H _ hP hD hS ls (lv_sub hl [0, 1, 2, 3, 4, 5] rfl)
    · have d_11 := c_11
      simp only [kt_lt, kt_le, kt_eq, kt_c0, kt_c1, kt_c2, kt_c3, kt_c4, kt_c8, kt_c9, kt_cm1, kt_c81, kt_c40, kt_c7, kt_c5, kt_c6, kt_c512, kt_c10, kt_c10000] at d_11
      refine lv_iload_n hx hb dX1_change_14 rfl (lv_at hl 2 rfl) ?_
      refine lv_iconst (v := 4) hx hb dX1_change_15 (by decide) ?_
      refine lv_icmp_ne (tgt := 46) hx hb dX1_change_16 (by decide) (fun c_16 => ?_) (fun c_16 => ?_)
      · have d_16 := c_16
        simp only [kt_lt, kt_le, kt_eq, kt_c0, kt_c1, kt_c2, kt_c3, kt_c4, kt_c8, kt_c9, kt_cm1, kt_c81, kt_c40, kt_c7, kt_c5, kt_c6, kt_c512, kt_c10, kt_c10000] at d_16
        refine lv_iconst (v := 0) hx hb dX1_change_46 (by decide) ?_
        refine lv_istore (lv' := [(6, .int 0), (0, .ref la), (1, .int p1), (2, .int p2), (3, .int p3), (4, .int p4), (5, .int p5)]) hx hb dX1_change_47 hl (by decide) rfl (fun ls hl => ?_)
        refine lv_iload hx hb dX1_change_49 (lv_at hl 0 rfl) ?_
        refine lv_if_ne (tgt := 56) hx hb dX1_change_51 (by decide) (fun c_51 => absurd c_51 (by decide)) (fun c_51 => ?_)
        refine lv_iconst (v := 0) hx hb dX1_change_54 (by decide) ?_
        exact kt_rz (lg, lh, lt, lr, lc) hx hb hr hlk hS dX1_change_55 hP hD (by show ((0 : Int32) = 1 ∧ ((p1.toInt = 0 ∨ p1.toInt = 1) ∧ (p2.toInt = 2 ∨ p2.toInt = 4) ∧ 0 ≤ p4.toInt ∧ p4.toInt ≤ 8 ∧ (p5.toInt = 0 ∨ p5.toInt = 1)) ∧ lg = p1 ∧ lh = p2 ∧ lt = p3 ∧ lr = p4 ∧ lc = p5) ∨ ((0 : Int32) = 0 ∧ ¬ ((p1.toInt = 0 ∨ p1.toInt = 1) ∧ (p2.toInt = 2 ∨ p2.toInt = 4) ∧ 0 ≤ p4.toInt ∧ p4.toInt ≤ 8 ∧ (p5.toInt = 0 ∨ p5.toInt = 1)) ∧ lg = lg ∧ lh = lh ∧ lt = lt ∧ lr = lr ∧ lc = lc); first | exact Or.inr ⟨rfl, by omega, rfl, rfl, rfl, rfl, rfl⟩ | exact Or.inl ⟨rfl, by omega, rfl, rfl, rfl, rfl, rfl⟩) rfl
      · have d_16 := c_16
        simp only [kt_lt, kt_le, kt_eq, kt_c0, kt_c1, kt_c2, kt_c3, kt_c4, kt_c8, kt_c9, kt_cm1, kt_c81, kt_c40, kt_c7, kt_c5, kt_c6, kt_c512, kt_c10, kt_c10000] at d_16
        exact j_19 () (by show p2.toInt = 2 ∨ p2.toInt = 4; omega) H _ hP hD hS ls (lv_sub hl [0, 1, 2, 3, 4, 5] rfl)
  refine lv_if_eq (tgt := 9) hx hb dX1_change_1 (by decide) (fun c_1 => ?_) (fun c_1 => ?_)
  · have d_1 := c_1
    simp only [kt_lt, kt_le, kt_eq, kt_c0, kt_c1, kt_c2, kt_c3, kt_c4, kt_c8, kt_c9, kt_cm1, kt_c81, kt_c40, kt_c7, kt_c5, kt_c6, kt_c512, kt_c10, kt_c10000] at d_1
    exact j_9 () (by show p1.toInt = 0 ∨ p1.toInt = 1; omega) H _ hP hD hS ls (lv_sub hl [0, 1, 2, 3, 4, 5] rfl)
  · have d_1 := c_1
    simp only [kt_lt, kt_le, kt_eq, kt_c0, kt_c1, kt_c2, kt_c3, kt_c4, kt_c8, kt_c9, kt_cm1, kt_c81, kt_c40, kt_c7, kt_c5, kt_c6, kt_c512, kt_c10, kt_c10000] at d_1
    refine lv_iload_n hx hb dX1_change_4 rfl (lv_at hl 1 rfl) ?_
    refine lv_iconst (v := 1) hx hb dX1_change_5 (by decide) ?_
    refine lv_icmp_ne (tgt := 46) hx hb dX1_change_6 (by decide) (fun c_6 => ?_) (fun c_6 => ?_)
    · have d_6 := c_6
      simp only [kt_lt, kt_le, kt_eq, kt_c0, kt_c1, kt_c2, kt_c3, kt_c4, kt_c8, kt_c9, kt_cm1, kt_c81, kt_c40, kt_c7, kt_c5, kt_c6, kt_c512, kt_c10, kt_c10000] at d_6
      refine lv_iconst (v := 0) hx hb dX1_change_46 (by decide) ?_
      refine lv_istore (lv' := [(6, .int 0), (0, .ref la), (1, .int p1), (2, .int p2), (3, .int p3), (4, .int p4), (5, .int p5)]) hx hb dX1_change_47 hl (by decide) rfl (fun ls hl => ?_)
      refine lv_iload hx hb dX1_change_49 (lv_at hl 0 rfl) ?_
      refine lv_if_ne (tgt := 56) hx hb dX1_change_51 (by decide) (fun c_51 => absurd c_51 (by decide)) (fun c_51 => ?_)
      refine lv_iconst (v := 0) hx hb dX1_change_54 (by decide) ?_
      exact kt_rz (lg, lh, lt, lr, lc) hx hb hr hlk hS dX1_change_55 hP hD (by show ((0 : Int32) = 1 ∧ ((p1.toInt = 0 ∨ p1.toInt = 1) ∧ (p2.toInt = 2 ∨ p2.toInt = 4) ∧ 0 ≤ p4.toInt ∧ p4.toInt ≤ 8 ∧ (p5.toInt = 0 ∨ p5.toInt = 1)) ∧ lg = p1 ∧ lh = p2 ∧ lt = p3 ∧ lr = p4 ∧ lc = p5) ∨ ((0 : Int32) = 0 ∧ ¬ ((p1.toInt = 0 ∨ p1.toInt = 1) ∧ (p2.toInt = 2 ∨ p2.toInt = 4) ∧ 0 ≤ p4.toInt ∧ p4.toInt ≤ 8 ∧ (p5.toInt = 0 ∨ p5.toInt = 1)) ∧ lg = lg ∧ lh = lh ∧ lt = lt ∧ lr = lr ∧ lc = lc); first | exact Or.inr ⟨rfl, by omega, rfl, rfl, rfl, rfl, rfl⟩ | exact Or.inl ⟨rfl, by omega, rfl, rfl, rfl, rfl, rfl⟩) rfl
    · have d_6 := c_6
      simp only [kt_lt, kt_le, kt_eq, kt_c0, kt_c1, kt_c2, kt_c3, kt_c4, kt_c8, kt_c9, kt_cm1, kt_c81, kt_c40, kt_c7, kt_c5, kt_c6, kt_c512, kt_c10, kt_c10000] at d_6
      exact j_9 () (by show p1.toInt = 0 ∨ p1.toInt = 1; omega) H _ hP hD hS ls (lv_sub hl [0, 1, 2, 3, 4, 5] rfl)

theorem iw_X9_canBegin_X9 : ∀ w ∈ wsX90, w ∈ wsX9_canBegin := fun _ h => kt_wp_X9_canBegin__X90 h
set_option maxHeartbeats 4000000 in
set_option maxRecDepth 100000 in
theorem c_X9_canBegin (l : Launch) (D : va_G) (cI cZ cB : ClassId) (sz : Nat) (to : Nat) (sg : Nat) (ln : Int32) (wd : Int32) (fg : Nat → Int32) (hln : 2 ≤ ln.toInt ∧ ln.toInt ≤ 9) (hwd : 2 ≤ wd.toInt ∧ wd.toInt ≤ 9) : kt_Mi l yX9_canBegin wsX9_canBegin { frames := 1, cells := 0, slots := 0, locals := 20 } D (kt_ty cI cZ cB) [.ref to] sz [(to, .inr (9, [.ref sg, .int ln, .int wd])), (sg, .inl (cI, 81, .inl fg))] (fun (r : Int32) (u : Unit) => kt_B r (kt_ok fg (kt_sz ln wd))) (fun (u : Unit) => [(to, .inr (9, [.ref sg, .int ln, .int wd])), (sg, .inl (cI, 81, .inl fg))]) 0 0 := by
  refine kt_Mi.of (cc := cX9_canBegin) (maxL := 8) (ret := some .boolean) (by decide) rfl (Nat.le_of_ble_eq_true rfl) ?_
  intro p e s m below meth c A ls H hAt hP hD hS hl
  obtain ⟨hx, hb, hr, hml, hown, hts, hN, hK, hlk, hnm, hA⟩ := hAt
  have hl : lv_has ls 8 [(0, .ref to)] := hl
  have hown : s.vm.findClass RX9 = some m.cls := hown
  refine lv_iconst (v := 0) hx hb dX9_canBegin_0 (by decide) ?_
  refine lv_istore_n (lv' := [(1, .int 0), (0, .ref to)]) hx hb dX9_canBegin_1 rfl hl (by decide) rfl (fun ls hl => ?_)
  refine lv_iconst (v := 0) hx hb dX9_canBegin_2 (by decide) ?_
  refine lv_istore_n (lv' := [(2, .int 0), (1, .int 0), (0, .ref to)]) hx hb dX9_canBegin_3 rfl hl (by decide) rfl (fun ls hl => ?_)
  refine lv_iconst (v := 0) hx hb dX9_canBegin_4 (by decide) ?_
  refine lv_istore_n (lv' := [(3, .int 0), (2, .int 0), (1, .int 0), (0, .ref to)]) hx hb dX9_canBegin_5 rfl hl (by decide) rfl (fun ls hl => ?_)
  refine lv_iconst (v := 0) hx hb dX9_canBegin_6 (by decide) ?_
  refine lv_istore (lv' := [(4, .int 0), (3, .int 0), (2, .int 0), (1, .int 0), (0, .ref to)]) hx hb dX9_canBegin_7 hl (by decide) rfl (fun ls hl => ?_)
  refine lv_aload_n hx hb dX9_canBegin_9 rfl (lv_at hl 4 rfl) ?_
  refine kt_pi (wc := [(to, .inr (9, [.ref sg, .int ln, .int wd]))]) [0] hP hD hS hA rfl (by decide) (fun hPc hDc => va_runV (As := []) (rest := []) ⟨hx, hb, hml, hown, hts⟩ (c_X9_size l D cI cZ cB H.size to sg ln wd (by first | assumption | omega | rfl | decide) (by first | assumption | omega | rfl | decide)) (cwV 0 hts gX9_canBegin_X9_size rfl rfl rfl (by decide +kernel) ⟨Nat.le_of_ble_eq_true rfl, Nat.le_of_ble_eq_true rfl⟩) (kt_preV hN hK hPc hDc 0 (ci := 9) (q := (RX9, TX9, 3)) rfl rfl) rfl rfl hl.1 rfl (lv_room (Nat.le_of_ble_eq_true rfl)) dX9_canBegin_10 ⟨Nat.le_of_ble_eq_true rfl, Nat.le_of_ble_eq_true rfl⟩) (fun r_10 _ H locs hw_10 hP hS => ?_)
  refine lv_istore (lv' := [(5, .int r_10), (4, .int 0), (3, .int 0), (2, .int 0), (1, .int 0), (0, .ref to)]) hx hb dX9_canBegin_13 hl (by decide) rfl (fun ls hl => ?_)
  refine lv_iconst (v := 0) hx hb dX9_canBegin_15 (by decide) ?_
  refine lv_istore (lv' := [(6, .int 0), (5, .int r_10), (4, .int 0), (3, .int 0), (2, .int 0), (1, .int 0), (0, .ref to)]) hx hb dX9_canBegin_16 hl (by decide) rfl (fun ls hl => ?_)
  refine kt_loop (σ := Nat × Int32 × Int32 × Int32 × Int32) 18 8 (fun u => [(to, .inr (9, [.ref sg, .int ln, .int wd])), (sg, .inl (cI, 81, .inl fg))]) (fun u => [(6, .int (nI u.1)), (5, .int r_10), (4, .int u.2.2.2.2), (3, .int u.2.2.2.1), (2, .int u.2.2.1), (1, .int u.2.1), (0, .ref to)]) (fun n u => (u.1 ≤ 81 ∧ 81 < u.1 + n ∧ (u.1 : Int) ≤ r_10.toInt) ∧ u.2.1 = nI (kt_ct kt_iK fg u.1) ∧ u.2.2.1 = nI (kt_ct kt_iR fg u.1) ∧ u.2.2.2.1 = nI (kt_ct kt_iP fg u.1) ∧ u.2.2.2.2 = nI (kt_ct kt_iT fg u.1)) (fun u h => by omega) (fun n_18 ih_18 u hI H locs hP hD hS ls hl => ?_) (82) (0, (0 : Int32), (0 : Int32), (0 : Int32), (0 : Int32)) (by show (0 ≤ 81 ∧ 81 < 0 + 82 ∧ (0 : Int) ≤ r_10.toInt) ∧ (0 : Int32) = nI (kt_ct kt_iK fg 0) ∧ (0 : Int32) = nI (kt_ct kt_iR fg 0) ∧ (0 : Int32) = nI (kt_ct kt_iP fg 0) ∧ (0 : Int32) = nI (kt_ct kt_iT fg 0); exact ⟨⟨by decide, by decide, by omega⟩, rfl, rfl, rfl, rfl⟩) hP hD hS (lv_sub hl [0, 1, 2, 3, 4, 5, 6] rfl)
  obtain ⟨k, c1, c2, c3, c4⟩ := u
  have hP : va_P D vwCl [(to, .inr (9, [.ref sg, .int ln, .int wd])), (sg, .inl (cI, 81, .inl fg))] H := hP
  have hD : va_D A [(to, .inr (9, [.ref sg, .int ln, .int wd])), (sg, .inl (cI, 81, .inl fg))] := hD
  have hl : lv_has ls 8 [(6, .int (nI k)), (5, .int r_10), (4, .int c4), (3, .int c3), (2, .int c2), (1, .int c1), (0, .ref to)] := hl
  have hI : (k ≤ 81 ∧ 81 < k + (n_18 + 1) ∧ (k : Int) ≤ r_10.toInt) ∧ c1 = nI (kt_ct kt_iK fg k) ∧ c2 = nI (kt_ct kt_iR fg k) ∧ c3 = nI (kt_ct kt_iP fg k) ∧ c4 = nI (kt_ct kt_iT fg k) := hI
  obtain ⟨hkb, h1, h2, h3, h4⟩ := hI
  have hk0 := kt_nI (n := k) (by omega)
  refine lv_iload hx hb dX9_canBegin_18 (lv_at hl 0 rfl) ?_
  refine lv_iload hx hb dX9_canBegin_20 (lv_at hl 1 rfl) ?_
  refine lv_icmp_ge (tgt := 114) hx hb dX9_canBegin_22 (by decide) (fun c_22 => ?_) (fun c_22 => ?_)
  · have d_22 := c_22
    simp only [kt_lt, kt_le, kt_eq, kt_c0, kt_c1, kt_c2, kt_c3, kt_c4, kt_c8, kt_c9, kt_cm1, kt_c81, kt_c40, kt_c7, kt_c5, kt_c6, kt_c512, kt_c10, kt_c10000] at d_22
    have hN : kt_sz ln wd = k := by unfold kt_sz; omega
    have l1 := kt_ct_le kt_iK fg k
    have l2 := kt_ct_le kt_iR fg k
    have l3 := kt_ct_le kt_iP fg k
    have l4 := kt_ct_le kt_iT fg k
    have e1 := kt_nI (n := kt_ct kt_iK fg k) (by omega)
    have e2 := kt_nI (n := kt_ct kt_iR fg k) (by omega)
    have e3 := kt_nI (n := kt_ct kt_iP fg k) (by omega)
    have e4 := kt_nI (n := kt_ct kt_iT fg k) (by omega)
    rw [← h1] at e1
    rw [← h2] at e2
    rw [← h3] at e3
    rw [← h4] at e4
    refine lv_iload_n hx hb dX9_canBegin_114 rfl (lv_at hl 5 rfl) ?_
    refine lv_iconst (v := 1) hx hb dX9_canBegin_115 (by decide) ?_
    refine lv_icmp_ne (tgt := 140) hx hb dX9_canBegin_116 (by decide) (fun c_116 => ?_) (fun c_116 => ?_)
    · have d_116 := c_116
      simp only [kt_lt, kt_le, kt_eq, kt_c0, kt_c1, kt_c2, kt_c3, kt_c4, kt_c8, kt_c9, kt_cm1, kt_c81, kt_c40, kt_c7, kt_c5, kt_c6, kt_c512, kt_c10, kt_c10000] at d_116
      refine lv_iconst (v := 0) hx hb dX9_canBegin_140 (by decide) ?_
      exact kt_rz () hx hb hr hlk hS dX9_canBegin_141 hP hD (by show kt_B (0 : Int32) (kt_ok fg (kt_sz ln wd)); first | exact Or.inr ⟨rfl, by rw [hN]; unfold kt_ok; omega⟩ | exact Or.inl ⟨rfl, by rw [hN]; unfold kt_ok; omega⟩) rfl
    · have d_116 := c_116
      simp only [kt_lt, kt_le, kt_eq, kt_c0, kt_c1, kt_c2, kt_c3, kt_c4, kt_c8, kt_c9, kt_cm1, kt_c81, kt_c40, kt_c7, kt_c5, kt_c6, kt_c512, kt_c10, kt_c10000] at d_116
      refine lv_iload_n hx hb dX9_canBegin_119 rfl (lv_at hl 4 rfl) ?_
      refine lv_iconst (v := 1) hx hb dX9_canBegin_120 (by decide) ?_
      refine lv_icmp_lt (tgt := 140) hx hb dX9_canBegin_121 (by decide) (fun c_121 => ?_) (fun c_121 => ?_)
      · have d_121 := c_121
        simp only [kt_lt, kt_le, kt_eq, kt_c0, kt_c1, kt_c2, kt_c3, kt_c4, kt_c8, kt_c9, kt_cm1, kt_c81, kt_c40, kt_c7, kt_c5, kt_c6, kt_c512, kt_c10, kt_c10000] at d_121
        refine lv_iconst (v := 0) hx hb dX9_canBegin_140 (by decide) ?_
        exact kt_rz () hx hb hr hlk hS dX9_canBegin_141 hP hD (by show kt_B (0 : Int32) (kt_ok fg (kt_sz ln wd)); first | exact Or.inr ⟨rfl, by rw [hN]; unfold kt_ok; omega⟩ | exact Or.inl ⟨rfl, by rw [hN]; unfold kt_ok; omega⟩) rfl
      · have d_121 := c_121
        simp only [kt_lt, kt_le, kt_eq, kt_c0, kt_c1, kt_c2, kt_c3, kt_c4, kt_c8, kt_c9, kt_cm1, kt_c81, kt_c40, kt_c7, kt_c5, kt_c6, kt_c512, kt_c10, kt_c10000] at d_121
        refine lv_iload_n hx hb dX9_canBegin_124 rfl (lv_at hl 3 rfl) ?_
        refine lv_bipush (v := 40) hx hb dX9_canBegin_125 (by decide) ?_
        refine lv_icmp_gt (tgt := 140) hx hb dX9_canBegin_127 (by decide) (fun c_127 => ?_) (fun c_127 => ?_)
        · have d_127 := c_127
          simp only [kt_lt, kt_le, kt_eq, kt_c0, kt_c1, kt_c2, kt_c3, kt_c4, kt_c8, kt_c9, kt_cm1, kt_c81, kt_c40, kt_c7, kt_c5, kt_c6, kt_c512, kt_c10, kt_c10000] at d_127
          refine lv_iconst (v := 0) hx hb dX9_canBegin_140 (by decide) ?_
          exact kt_rz () hx hb hr hlk hS dX9_canBegin_141 hP hD (by show kt_B (0 : Int32) (kt_ok fg (kt_sz ln wd)); first | exact Or.inr ⟨rfl, by rw [hN]; unfold kt_ok; omega⟩ | exact Or.inl ⟨rfl, by rw [hN]; unfold kt_ok; omega⟩) rfl
        · have d_127 := c_127
          simp only [kt_lt, kt_le, kt_eq, kt_c0, kt_c1, kt_c2, kt_c3, kt_c4, kt_c8, kt_c9, kt_cm1, kt_c81, kt_c40, kt_c7, kt_c5, kt_c6, kt_c512, kt_c10, kt_c10000] at d_127
          refine lv_iload hx hb dX9_canBegin_130 (lv_at hl 2 rfl) ?_
          refine lv_iconst (v := 1) hx hb dX9_canBegin_132 (by decide) ?_
          refine lv_icmp_gt (tgt := 140) hx hb dX9_canBegin_133 (by decide) (fun c_133 => ?_) (fun c_133 => ?_)
          · have d_133 := c_133
            simp only [kt_lt, kt_le, kt_eq, kt_c0, kt_c1, kt_c2, kt_c3, kt_c4, kt_c8, kt_c9, kt_cm1, kt_c81, kt_c40, kt_c7, kt_c5, kt_c6, kt_c512, kt_c10, kt_c10000] at d_133
            refine lv_iconst (v := 0) hx hb dX9_canBegin_140 (by decide) ?_
            exact kt_rz () hx hb hr hlk hS dX9_canBegin_141 hP hD (by show kt_B (0 : Int32) (kt_ok fg (kt_sz ln wd)); first | exact Or.inr ⟨rfl, by rw [hN]; unfold kt_ok; omega⟩ | exact Or.inl ⟨rfl, by rw [hN]; unfold kt_ok; omega⟩) rfl
          · have d_133 := c_133
            simp only [kt_lt, kt_le, kt_eq, kt_c0, kt_c1, kt_c2, kt_c3, kt_c4, kt_c8, kt_c9, kt_cm1, kt_c81, kt_c40, kt_c7, kt_c5, kt_c6, kt_c512, kt_c10, kt_c10000] at d_133
            refine lv_iconst (v := 1) hx hb dX9_canBegin_136 (by decide) ?_
            refine lv_goto (tgt := 141) hx hb dX9_canBegin_137 (by decide) ?_
            exact kt_rz () hx hb hr hlk hS dX9_canBegin_141 hP hD (by show kt_B (1 : Int32) (kt_ok fg (kt_sz ln wd)); first | exact Or.inr ⟨rfl, by rw [hN]; unfold kt_ok; omega⟩ | exact Or.inl ⟨rfl, by rw [hN]; unfold kt_ok; omega⟩) rfl
  · have d_22 := c_22
    simp only [kt_lt, kt_le, kt_eq, kt_c0, kt_c1, kt_c2, kt_c3, kt_c4, kt_c8, kt_c9, kt_cm1, kt_c81, kt_c40, kt_c7, kt_c5, kt_c6, kt_c512, kt_c10, kt_c10000] at d_22
    refine lv_aload_n hx hb dX9_canBegin_25 rfl (lv_at hl 6 rfl) ?_
    refine va_get (D := D) (ci := 9) (C := RX9) (T := TX9) (N := 3) hx hb hts iw_X9_canBegin_X9 hown hK hP 0 rfl rfl 0 (by decide) (hts (.fieldLink RX9 9 "KingTable$Told" "signs" "[I") (List.mem_cons_of_mem _ (List.mem_append_left _ (List.Mem.head _)))) (fun _ h9 => h9) rfl dX9_canBegin_26 ?_
    refine lv_iload hx hb dX9_canBegin_29 (lv_at hl 0 rfl) ?_
    have hi_1 : vp_in (nI k) 81 := by exact kt_in (by omega) (by omega)
    refine va_iald hx hb hK hP 1 0 rfl rfl hi_1 dX9_canBegin_31 ?_
    refine lv_topi (fun a_31 ea_31 => ?_)
    refine kt_pi (wc := []) [] hP hD hS hA rfl (by decide) (fun hPc hDc => va_runSN (As := [.int a_31]) (rest := []) ⟨hx, hb, hml, hown, hts⟩ (c_X10_kindOfSign l D cI cZ cB H.size a_31 ) ⟨va_cnB 1 hts gX9_canBegin_X10_kindOfSign_n36 rfl rfl rfl (hN (.methodLinkNest "KingTable$Told" 36 yX10_kindOfSign "KingTable") (by decide +kernel)) (hts (.initialized RX10) (List.mem_cons_of_mem _ (List.mem_append_left _ (List.mem_cons_of_mem _ (List.mem_cons_of_mem _ (List.mem_cons_of_mem _ (List.mem_cons_of_mem _ (List.mem_cons_of_mem _ (List.mem_cons_of_mem _ (List.mem_cons_of_mem _ (List.mem_cons_of_mem _ (List.mem_cons_of_mem _ (List.Mem.head _))))))))))))) (by decide +kernel) ⟨Nat.le_of_ble_eq_true rfl, Nat.le_of_ble_eq_true rfl⟩, (hts (.static yX10_kindOfSign) (List.mem_cons_of_mem _ (List.mem_append_left _ (List.mem_cons_of_mem _ (List.mem_cons_of_mem _ (List.mem_cons_of_mem _ (List.mem_cons_of_mem _ (List.mem_cons_of_mem _ (List.mem_cons_of_mem _ (List.mem_cons_of_mem _ (List.mem_cons_of_mem _ (List.Mem.head _)))))))))))), trivial⟩ (kt_preS hN hK hPc hDc) rfl rfl hl.1 rfl (lv_room (Nat.le_of_ble_eq_true rfl)) dX9_canBegin_32 ⟨Nat.le_of_ble_eq_true rfl, Nat.le_of_ble_eq_true rfl⟩) (fun r_32 _ H locs hw_32 hP hS => ?_)
    subst hw_32
    refine lv_istore (lv' := [(7, .int (kt_kd a_31)), (6, .int (nI k)), (5, .int r_10), (4, .int c4), (3, .int c3), (2, .int c2), (1, .int c1), (0, .ref to)]) hx hb dX9_canBegin_35 hl (by decide) rfl (fun ls hl => ?_)
    rw [nI_clamp (by omega)] at ea_31
    refine lv_iload_n hx hb dX9_canBegin_37 rfl (lv_at hl 6 rfl) ?_
    refine lv_iload hx hb dX9_canBegin_38 (lv_at hl 0 rfl) ?_
    refine lv_iconst (v := 2) hx hb dX9_canBegin_40 (by decide) ?_
    refine kt_join (σ := Int32) 49 8 (fun u => [(to, .inr (9, [.ref sg, .int ln, .int wd])), (sg, .inl (cI, 81, .inl fg))]) (fun u => [(7, .int (kt_kd a_31)), (6, .int (nI k)), (5, .int r_10), (4, .int c4), (3, .int c3), (2, .int c2), (1, .int c1), (0, .ref to)]) (fun u => [.int u, .int c1]) (fun u => u = if kt_iK (fg k) = true then 1 else 0) (D := D) (A := A) (H0 := s.heap) (fun u hI H locs hP hD hS ls hl => ?_) (fun j_49 => ?_)
    · obtain ⟨v1, rfl⟩ : ∃ z, z = u := ⟨_, rfl⟩
      have hP : va_P D vwCl [(to, .inr (9, [.ref sg, .int ln, .int wd])), (sg, .inl (cI, 81, .inl fg))] H := hP
      have hD : va_D A [(to, .inr (9, [.ref sg, .int ln, .int wd])), (sg, .inl (cI, 81, .inl fg))] := hD
      have hl : lv_has ls 8 [(7, .int (kt_kd a_31)), (6, .int (nI k)), (5, .int r_10), (4, .int c4), (3, .int c3), (2, .int c2), (1, .int c1), (0, .ref to)] := hl
      have hI : v1 = if kt_iK (fg k) = true then 1 else 0 := hI
      have e_v1 := hI
      refine lv_iadd hx hb dX9_canBegin_49 ?_
      refine lv_topi (fun t_49 et_49 => ?_)
      obtain ⟨k_49, hk_49, hm_49, hM_49⟩ := kt_addk et_49
      refine lv_istore_n (lv' := [(1, .int t_49), (7, .int (kt_kd a_31)), (6, .int (nI k)), (5, .int r_10), (4, .int c4), (3, .int c3), (2, .int c2), (0, .ref to)]) hx hb dX9_canBegin_50 rfl hl (by decide) rfl (fun ls hl => ?_)
      refine lv_iload_n hx hb dX9_canBegin_51 rfl (lv_at hl 6 rfl) ?_
      refine lv_iload hx hb dX9_canBegin_52 (lv_at hl 1 rfl) ?_
      refine lv_iconst (v := 3) hx hb dX9_canBegin_54 (by decide) ?_
      refine kt_join (σ := Int32) 69 8 (fun u => [(to, .inr (9, [.ref sg, .int ln, .int wd])), (sg, .inl (cI, 81, .inl fg))]) (fun u => [(1, .int t_49), (7, .int (kt_kd a_31)), (6, .int (nI k)), (5, .int r_10), (4, .int c4), (3, .int c3), (2, .int c2), (0, .ref to)]) (fun u => [.int u, .int c2]) (fun u => u = if kt_iR (fg k) = true then 1 else 0) (D := D) (A := A) (H0 := s.heap) (fun u hI H locs hP hD hS ls hl => ?_) (fun j_69 => ?_)
      · obtain ⟨v2, rfl⟩ : ∃ z, z = u := ⟨_, rfl⟩
        have hP : va_P D vwCl [(to, .inr (9, [.ref sg, .int ln, .int wd])), (sg, .inl (cI, 81, .inl fg))] H := hP
        have hD : va_D A [(to, .inr (9, [.ref sg, .int ln, .int wd])), (sg, .inl (cI, 81, .inl fg))] := hD
        have hl : lv_has ls 8 [(1, .int t_49), (7, .int (kt_kd a_31)), (6, .int (nI k)), (5, .int r_10), (4, .int c4), (3, .int c3), (2, .int c2), (0, .ref to)] := hl
        have hI : v2 = if kt_iR (fg k) = true then 1 else 0 := hI
        have e_v2 := hI
        refine lv_iadd hx hb dX9_canBegin_69 ?_
        refine lv_topi (fun t_69 et_69 => ?_)
        obtain ⟨k_69, hk_69, hm_69, hM_69⟩ := kt_addk et_69
        refine lv_istore_n (lv' := [(2, .int t_69), (1, .int t_49), (7, .int (kt_kd a_31)), (6, .int (nI k)), (5, .int r_10), (4, .int c4), (3, .int c3), (0, .ref to)]) hx hb dX9_canBegin_70 rfl hl (by decide) rfl (fun ls hl => ?_)
        refine lv_iload_n hx hb dX9_canBegin_71 rfl (lv_at hl 6 rfl) ?_
        refine lv_iload hx hb dX9_canBegin_72 (lv_at hl 2 rfl) ?_
        refine kt_join (σ := Int32) 82 8 (fun u => [(to, .inr (9, [.ref sg, .int ln, .int wd])), (sg, .inl (cI, 81, .inl fg))]) (fun u => [(2, .int t_69), (1, .int t_49), (7, .int (kt_kd a_31)), (6, .int (nI k)), (5, .int r_10), (4, .int c4), (3, .int c3), (0, .ref to)]) (fun u => [.int u, .int c3]) (fun u => u = if kt_iP (fg k) = true then 1 else 0) (D := D) (A := A) (H0 := s.heap) (fun u hI H locs hP hD hS ls hl => ?_) (fun j_82 => ?_)
        · obtain ⟨v3, rfl⟩ : ∃ z, z = u := ⟨_, rfl⟩
          have hP : va_P D vwCl [(to, .inr (9, [.ref sg, .int ln, .int wd])), (sg, .inl (cI, 81, .inl fg))] H := hP
          have hD : va_D A [(to, .inr (9, [.ref sg, .int ln, .int wd])), (sg, .inl (cI, 81, .inl fg))] := hD
          have hl : lv_has ls 8 [(2, .int t_69), (1, .int t_49), (7, .int (kt_kd a_31)), (6, .int (nI k)), (5, .int r_10), (4, .int c4), (3, .int c3), (0, .ref to)] := hl
          have hI : v3 = if kt_iP (fg k) = true then 1 else 0 := hI
          have e_v3 := hI
          refine lv_iadd hx hb dX9_canBegin_82 ?_
          refine lv_topi (fun t_82 et_82 => ?_)
          obtain ⟨k_82, hk_82, hm_82, hM_82⟩ := kt_addk et_82
          refine lv_istore_n (lv' := [(3, .int t_82), (2, .int t_69), (1, .int t_49), (7, .int (kt_kd a_31)), (6, .int (nI k)), (5, .int r_10), (4, .int c4), (0, .ref to)]) hx hb dX9_canBegin_83 rfl hl (by decide) rfl (fun ls hl => ?_)
          refine lv_iload hx hb dX9_canBegin_84 (lv_at hl 6 rfl) ?_
          refine lv_aload_n hx hb dX9_canBegin_86 rfl (lv_at hl 7 rfl) ?_
          refine va_get (D := D) (ci := 9) (C := RX9) (T := TX9) (N := 3) hx hb hts iw_X9_canBegin_X9 hown hK hP 0 rfl rfl 0 (by decide) (hts (.fieldLink RX9 9 "KingTable$Told" "signs" "[I") (List.mem_cons_of_mem _ (List.mem_append_left _ (List.Mem.head _)))) (fun _ h9 => h9) rfl dX9_canBegin_87 ?_
          refine lv_iload hx hb dX9_canBegin_90 (lv_at hl 4 rfl) ?_
          have hi_2 : vp_in (nI k) 81 := by exact kt_in (by omega) (by omega)
          refine va_iald hx hb hK hP 1 0 rfl rfl hi_2 dX9_canBegin_92 ?_
          refine lv_topi (fun a_92 ea_92 => ?_)
          refine kt_pi (wc := []) [] hP hD hS hA rfl (by decide) (fun hPc hDc => va_runSN (As := [.int a_92]) (rest := [.int c4]) ⟨hx, hb, hml, hown, hts⟩ (c_X10_typeOfSign l D cI cZ cB H.size a_92 ) ⟨va_cnB 1 hts gX9_canBegin_X10_typeOfSign_n40 rfl rfl rfl (hN (.methodLinkNest "KingTable$Told" 40 yX10_typeOfSign "KingTable") (by decide +kernel)) (hts (.initialized RX10) (List.mem_cons_of_mem _ (List.mem_append_left _ (List.mem_cons_of_mem _ (List.mem_cons_of_mem _ (List.mem_cons_of_mem _ (List.mem_cons_of_mem _ (List.mem_cons_of_mem _ (List.mem_cons_of_mem _ (List.mem_cons_of_mem _ (List.mem_cons_of_mem _ (List.mem_cons_of_mem _ (List.Mem.head _))))))))))))) (by decide +kernel) ⟨Nat.le_of_ble_eq_true rfl, Nat.le_of_ble_eq_true rfl⟩, (hts (.static yX10_typeOfSign) (List.mem_cons_of_mem _ (List.mem_append_left _ (List.mem_cons_of_mem _ (List.mem_cons_of_mem _ (List.mem_cons_of_mem _ (List.mem_cons_of_mem _ (List.mem_cons_of_mem _ (List.mem_cons_of_mem _ (List.mem_cons_of_mem _ (List.mem_cons_of_mem _ (List.mem_cons_of_mem _ (List.mem_cons_of_mem _ (List.mem_cons_of_mem _ (List.Mem.head _))))))))))))))), trivial⟩ (kt_preS hN hK hPc hDc) rfl rfl hl.1 rfl (lv_room (Nat.le_of_ble_eq_true rfl)) dX9_canBegin_93 ⟨Nat.le_of_ble_eq_true rfl, Nat.le_of_ble_eq_true rfl⟩) (fun r_93 _ H locs hw_93 hP hS => ?_)
          subst hw_93
          refine lv_iconst (v := 1) hx hb dX9_canBegin_96 (by decide) ?_
          refine kt_join (σ := Int32) 105 8 (fun u => [(to, .inr (9, [.ref sg, .int ln, .int wd])), (sg, .inl (cI, 81, .inl fg))]) (fun u => [(3, .int t_82), (2, .int t_69), (1, .int t_49), (7, .int (kt_kd a_31)), (6, .int (nI k)), (5, .int r_10), (4, .int c4), (0, .ref to)]) (fun u => [.int u, .int c4]) (fun u => u = if kt_iT (fg k) = true then 1 else 0) (D := D) (A := A) (H0 := s.heap) (fun u hI H locs hP hD hS ls hl => ?_) (fun j_105 => ?_)
          · obtain ⟨v4, rfl⟩ : ∃ z, z = u := ⟨_, rfl⟩
            have hP : va_P D vwCl [(to, .inr (9, [.ref sg, .int ln, .int wd])), (sg, .inl (cI, 81, .inl fg))] H := hP
            have hD : va_D A [(to, .inr (9, [.ref sg, .int ln, .int wd])), (sg, .inl (cI, 81, .inl fg))] := hD
            have hl : lv_has ls 8 [(3, .int t_82), (2, .int t_69), (1, .int t_49), (7, .int (kt_kd a_31)), (6, .int (nI k)), (5, .int r_10), (4, .int c4), (0, .ref to)] := hl
            have hI : v4 = if kt_iT (fg k) = true then 1 else 0 := hI
            have e_v4 := hI
            refine lv_iadd hx hb dX9_canBegin_105 ?_
            refine lv_topi (fun t_105 et_105 => ?_)
            obtain ⟨k_105, hk_105, hm_105, hM_105⟩ := kt_addk et_105
            refine lv_istore (lv' := [(4, .int t_105), (3, .int t_82), (2, .int t_69), (1, .int t_49), (7, .int (kt_kd a_31)), (6, .int (nI k)), (5, .int r_10), (0, .ref to)]) hx hb dX9_canBegin_106 hl (by decide) rfl (fun ls hl => ?_)
            refine lv_iinc (v := nI (k + 1)) (lv' := [(6, .int (nI (k + 1))), (4, .int t_105), (3, .int t_82), (2, .int t_69), (1, .int t_49), (7, .int (kt_kd a_31)), (5, .int r_10), (0, .ref to)]) hx hb dX9_canBegin_108 hl (k := 5) rfl (nI_1 _) (by decide) rfl (fun ls hl => ?_)
            refine lv_goto (tgt := 18) hx hb dX9_canBegin_111 (by decide) ?_
            exact ih_18 ((k + 1), t_49, t_69, t_82, t_105) (by show ((k + 1) ≤ 81 ∧ 81 < (k + 1) + n_18 ∧ ((k + 1) : Int) ≤ r_10.toInt) ∧ t_49 = nI (kt_ct kt_iK fg (k + 1)) ∧ t_69 = nI (kt_ct kt_iR fg (k + 1)) ∧ t_82 = nI (kt_ct kt_iP fg (k + 1)) ∧ t_105 = nI (kt_ct kt_iT fg (k + 1)); exact ⟨by omega, kt_ct_add h1 e_v1 et_49, kt_ct_add h2 e_v2 et_69, kt_ct_add h3 e_v3 et_82, kt_ct_add h4 e_v4 et_105⟩) H _ hP hD hS ls (lv_sub hl [0, 6, 1, 2, 3, 4, 7] rfl)
          rw [nI_clamp (by omega)] at ea_92
          refine lv_icmp_ne (tgt := 104) hx hb dX9_canBegin_97 (by decide) (fun c_97 => ?_) (fun c_97 => ?_)
          · have d_97 := c_97
            simp only [kt_lt, kt_le, kt_eq, kt_c0, kt_c1, kt_c2, kt_c3, kt_c4, kt_c8, kt_c9, kt_cm1, kt_c81, kt_c40, kt_c7, kt_c5, kt_c6, kt_c512, kt_c10, kt_c10000] at d_97
            refine lv_iconst (v := 0) hx hb dX9_canBegin_104 (by decide) ?_
            exact j_105 (0 : Int32) (by show (0 : Int32) = if kt_iT (fg k) = true then 1 else 0; rw [← ea_92]; unfold kt_iT; first | exact kt_dt (Or.inl ⟨rfl, c_97⟩) | exact kt_dt (Or.inr ⟨rfl, c_97⟩)) H _ hP hD hS ls (lv_sub hl [0, 1, 2, 3, 4, 5, 6, 7] rfl)
          · have d_97 := c_97
            simp only [kt_lt, kt_le, kt_eq, kt_c0, kt_c1, kt_c2, kt_c3, kt_c4, kt_c8, kt_c9, kt_cm1, kt_c81, kt_c40, kt_c7, kt_c5, kt_c6, kt_c512, kt_c10, kt_c10000] at d_97
            refine lv_iconst (v := 1) hx hb dX9_canBegin_100 (by decide) ?_
            refine lv_goto (tgt := 105) hx hb dX9_canBegin_101 (by decide) ?_
            exact j_105 (1 : Int32) (by show (1 : Int32) = if kt_iT (fg k) = true then 1 else 0; rw [← ea_92]; unfold kt_iT; first | exact kt_dt (Or.inl ⟨rfl, c_97⟩) | exact kt_dt (Or.inr ⟨rfl, c_97⟩)) H _ hP hD hS ls (lv_sub hl [0, 1, 2, 3, 4, 5, 6, 7] rfl)
        refine lv_if_ne (tgt := 81) hx hb dX9_canBegin_74 (by decide) (fun c_74 => ?_) (fun c_74 => ?_)
        · have d_74 := c_74
          simp only [kt_lt, kt_le, kt_eq, kt_c0, kt_c1, kt_c2, kt_c3, kt_c4, kt_c8, kt_c9, kt_cm1, kt_c81, kt_c40, kt_c7, kt_c5, kt_c6, kt_c512, kt_c10, kt_c10000] at d_74
          refine lv_iconst (v := 1) hx hb dX9_canBegin_81 (by decide) ?_
          exact j_82 (1 : Int32) (by show (1 : Int32) = if kt_iP (fg k) = true then 1 else 0; rw [← ea_31]; unfold kt_iP; first | exact kt_dt (Or.inl ⟨rfl, c_74⟩) | exact kt_dt (Or.inl ⟨rfl, fun h => h c_74⟩) | exact kt_dt (Or.inr ⟨rfl, c_74⟩) | exact kt_dt (Or.inr ⟨rfl, fun h => h c_74⟩)) H _ hP hD hS ls (lv_sub hl [0, 1, 2, 3, 4, 5, 6, 7] rfl)
        · have d_74 := c_74
          simp only [kt_lt, kt_le, kt_eq, kt_c0, kt_c1, kt_c2, kt_c3, kt_c4, kt_c8, kt_c9, kt_cm1, kt_c81, kt_c40, kt_c7, kt_c5, kt_c6, kt_c512, kt_c10, kt_c10000] at d_74
          refine lv_iconst (v := 0) hx hb dX9_canBegin_77 (by decide) ?_
          refine lv_goto (tgt := 82) hx hb dX9_canBegin_78 (by decide) ?_
          exact j_82 (0 : Int32) (by show (0 : Int32) = if kt_iP (fg k) = true then 1 else 0; rw [← ea_31]; unfold kt_iP; first | exact kt_dt (Or.inl ⟨rfl, c_74⟩) | exact kt_dt (Or.inl ⟨rfl, fun h => h c_74⟩) | exact kt_dt (Or.inr ⟨rfl, c_74⟩) | exact kt_dt (Or.inr ⟨rfl, fun h => h c_74⟩)) H _ hP hD hS ls (lv_sub hl [0, 1, 2, 3, 4, 5, 6, 7] rfl)
      refine lv_icmp_eq (tgt := 64) hx hb dX9_canBegin_55 (by decide) (fun c_55 => ?_) (fun c_55 => ?_)
      · have d_55 := c_55
        simp only [kt_lt, kt_le, kt_eq, kt_c0, kt_c1, kt_c2, kt_c3, kt_c4, kt_c8, kt_c9, kt_cm1, kt_c81, kt_c40, kt_c7, kt_c5, kt_c6, kt_c512, kt_c10, kt_c10000] at d_55
        refine lv_iconst (v := 1) hx hb dX9_canBegin_64 (by decide) ?_
        refine lv_goto (tgt := 69) hx hb dX9_canBegin_65 (by decide) ?_
        exact j_69 (1 : Int32) (by show (1 : Int32) = if kt_iR (fg k) = true then 1 else 0; rw [← ea_31]; unfold kt_iR; first | exact kt_dt (Or.inl ⟨rfl, Or.inl c_55⟩) | exact kt_dt (Or.inl ⟨rfl, Or.inr c_61⟩) | exact kt_dt (Or.inl ⟨rfl, fun h => h.elim c_55 c_61⟩) | exact kt_dt (Or.inr ⟨rfl, Or.inl c_55⟩) | exact kt_dt (Or.inr ⟨rfl, Or.inr c_61⟩) | exact kt_dt (Or.inr ⟨rfl, fun h => h.elim c_55 c_61⟩)) H _ hP hD hS ls (lv_sub hl [0, 1, 2, 3, 4, 5, 6, 7] rfl)
      · have d_55 := c_55
        simp only [kt_lt, kt_le, kt_eq, kt_c0, kt_c1, kt_c2, kt_c3, kt_c4, kt_c8, kt_c9, kt_cm1, kt_c81, kt_c40, kt_c7, kt_c5, kt_c6, kt_c512, kt_c10, kt_c10000] at d_55
        refine lv_iload hx hb dX9_canBegin_58 (lv_at hl 1 rfl) ?_
        refine lv_iconst (v := 4) hx hb dX9_canBegin_60 (by decide) ?_
        refine lv_icmp_ne (tgt := 68) hx hb dX9_canBegin_61 (by decide) (fun c_61 => ?_) (fun c_61 => ?_)
        · have d_61 := c_61
          simp only [kt_lt, kt_le, kt_eq, kt_c0, kt_c1, kt_c2, kt_c3, kt_c4, kt_c8, kt_c9, kt_cm1, kt_c81, kt_c40, kt_c7, kt_c5, kt_c6, kt_c512, kt_c10, kt_c10000] at d_61
          refine lv_iconst (v := 0) hx hb dX9_canBegin_68 (by decide) ?_
          exact j_69 (0 : Int32) (by show (0 : Int32) = if kt_iR (fg k) = true then 1 else 0; rw [← ea_31]; unfold kt_iR; first | exact kt_dt (Or.inl ⟨rfl, Or.inl c_55⟩) | exact kt_dt (Or.inl ⟨rfl, Or.inr c_61⟩) | exact kt_dt (Or.inl ⟨rfl, fun h => h.elim c_55 c_61⟩) | exact kt_dt (Or.inr ⟨rfl, Or.inl c_55⟩) | exact kt_dt (Or.inr ⟨rfl, Or.inr c_61⟩) | exact kt_dt (Or.inr ⟨rfl, fun h => h.elim c_55 c_61⟩)) H _ hP hD hS ls (lv_sub hl [0, 1, 2, 3, 4, 5, 6, 7] rfl)
        · have d_61 := c_61
          simp only [kt_lt, kt_le, kt_eq, kt_c0, kt_c1, kt_c2, kt_c3, kt_c4, kt_c8, kt_c9, kt_cm1, kt_c81, kt_c40, kt_c7, kt_c5, kt_c6, kt_c512, kt_c10, kt_c10000] at d_61
          refine lv_iconst (v := 1) hx hb dX9_canBegin_64 (by decide) ?_
          refine lv_goto (tgt := 69) hx hb dX9_canBegin_65 (by decide) ?_
          exact j_69 (1 : Int32) (by show (1 : Int32) = if kt_iR (fg k) = true then 1 else 0; rw [← ea_31]; unfold kt_iR; first | exact kt_dt (Or.inl ⟨rfl, Or.inl c_55⟩) | exact kt_dt (Or.inl ⟨rfl, Or.inr c_61⟩) | exact kt_dt (Or.inl ⟨rfl, fun h => h.elim c_55 c_61⟩) | exact kt_dt (Or.inr ⟨rfl, Or.inl c_55⟩) | exact kt_dt (Or.inr ⟨rfl, Or.inr c_61⟩) | exact kt_dt (Or.inr ⟨rfl, fun h => h.elim c_55 c_61⟩)) H _ hP hD hS ls (lv_sub hl [0, 1, 2, 3, 4, 5, 6, 7] rfl)
    refine lv_icmp_ne (tgt := 48) hx hb dX9_canBegin_41 (by decide) (fun c_41 => ?_) (fun c_41 => ?_)
    · have d_41 := c_41
      simp only [kt_lt, kt_le, kt_eq, kt_c0, kt_c1, kt_c2, kt_c3, kt_c4, kt_c8, kt_c9, kt_cm1, kt_c81, kt_c40, kt_c7, kt_c5, kt_c6, kt_c512, kt_c10, kt_c10000] at d_41
      refine lv_iconst (v := 0) hx hb dX9_canBegin_48 (by decide) ?_
      exact j_49 (0 : Int32) (by show (0 : Int32) = if kt_iK (fg k) = true then 1 else 0; rw [← ea_31]; unfold kt_iK; first | exact kt_dt (Or.inl ⟨rfl, c_41⟩) | exact kt_dt (Or.inr ⟨rfl, c_41⟩)) H _ hP hD hS ls (lv_sub hl [0, 1, 2, 3, 4, 5, 6, 7] rfl)
    · have d_41 := c_41
      simp only [kt_lt, kt_le, kt_eq, kt_c0, kt_c1, kt_c2, kt_c3, kt_c4, kt_c8, kt_c9, kt_cm1, kt_c81, kt_c40, kt_c7, kt_c5, kt_c6, kt_c512, kt_c10, kt_c10000] at d_41
      refine lv_iconst (v := 1) hx hb dX9_canBegin_44 (by decide) ?_
      refine lv_goto (tgt := 49) hx hb dX9_canBegin_45 (by decide) ?_
      exact j_49 (1 : Int32) (by show (1 : Int32) = if kt_iK (fg k) = true then 1 else 0; rw [← ea_31]; unfold kt_iK; first | exact kt_dt (Or.inl ⟨rfl, c_41⟩) | exact kt_dt (Or.inr ⟨rfl, c_41⟩)) H _ hP hD hS ls (lv_sub hl [0, 1, 2, 3, 4, 5, 6, 7] rfl)
