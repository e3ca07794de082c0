theorem iw_X3_isFull_X3 : ∀ w ∈ wsX30, w ∈ wsX3_isFull := fun _ h => kt_wp_X3_isFull__X30 h
set_option maxHeartbeats 4000000 in
set_option maxRecDepth 100000 in
theorem c_X3_isFull (l : Launch) (D : va_G) (cI cZ cB : ClassId) (sz : Nat) (lo : Nat) (l0 : Nat) (l1 : Nat) (l2 : Nat) (l3 : Nat) (l4 : Nat) (l5 : Nat) (l6 : Nat) (dn : Int32) (kn : Int32) : kt_Mi l yX3_isFull wsX3_isFull { frames := 0, cells := 0, slots := 0, locals := 0 } D (kt_ty cI cZ cB) [.ref lo] sz [(lo, .inr (3, [.ref l0, .ref l1, .ref l2, .ref l3, .ref l4, .ref l5, .ref l6, .int dn, .int kn]))] (fun (r : Int32) (u : Unit) => kt_B r (512 ≤ dn.toInt)) (fun (u : Unit) => [(lo, .inr (3, [.ref l0, .ref l1, .ref l2, .ref l3, .ref l4, .ref l5, .ref l6, .int dn, .int kn]))]) 0 0 := by
  refine kt_Mi.of (cc := cX3_isFull) (maxL := 1) (ret := some .boolean) (by decide) rfl (Nat.le_of_ble_eq_true rfl) ?_
  intro p e s m below meth c A ls H hAt hP hD hS hl
  obtain ⟨hx, hb, hr, hml, hown, hts, hN, hK, hlk, hnm, hA⟩ := hAt
  have hl : lv_has ls 1 [(0, .ref lo)] := hl
  have hown : s.vm.findClass RX3 = some m.cls := hown
  refine lv_aload_n hx hb dX3_isFull_0 rfl (lv_at hl 0 rfl) ?_
  refine va_get (D := D) (ci := 3) (C := RX3) (T := TX3) (N := 9) hx hb hts iw_X3_isFull_X3 hown hK hP 0 rfl rfl 7 (by decide) (hts (.fieldLink RX3 33 "KingTable$Log" "done" "I") (List.mem_cons_of_mem _ (List.mem_append_left _ (List.Mem.head _)))) (fun _ h9 => h9) rfl dX3_isFull_1 ?_
  refine lv_sipush (v := 512) hx hb dX3_isFull_4 (by decide) ?_
  refine lv_icmp_lt (tgt := 14) hx hb dX3_isFull_7 (by decide) (fun c_7 => ?_) (fun c_7 => ?_)
  · have d_7 := c_7
    simp only [kt_lt, kt_le, kt_eq, kt_c0, kt_c1, kt_c2, kt_c3, kt_c4, kt_c8, kt_c9, kt_cm1, kt_c81, kt_c40, kt_c7, kt_c5, kt_c6, kt_c512, kt_c10, kt_c10000] at d_7
    refine lv_iconst (v := 0) hx hb dX3_isFull_14 (by decide) ?_
    exact kt_rz () hx hb hr hlk hS dX3_isFull_15 hP hD (by show kt_B (0 : Int32) (512 ≤ dn.toInt); first | exact Or.inl ⟨rfl, by omega⟩ | exact Or.inr ⟨rfl, by omega⟩) rfl
  · have d_7 := c_7
    simp only [kt_lt, kt_le, kt_eq, kt_c0, kt_c1, kt_c2, kt_c3, kt_c4, kt_c8, kt_c9, kt_cm1, kt_c81, kt_c40, kt_c7, kt_c5, kt_c6, kt_c512, kt_c10, kt_c10000] at d_7
    refine lv_iconst (v := 1) hx hb dX3_isFull_10 (by decide) ?_
    refine lv_goto (tgt := 15) hx hb dX3_isFull_11 (by decide) ?_
    exact kt_rz () hx hb hr hlk hS dX3_isFull_15 hP hD (by show kt_B (1 : Int32) (512 ≤ dn.toInt); first | exact Or.inl ⟨rfl, by omega⟩ | exact Or.inr ⟨rfl, by omega⟩) rfl

theorem iw_X3_latestTakings_X3 : ∀ w ∈ wsX30, w ∈ wsX3_latestTakings := fun _ h => kt_wp_X3_latestTakings__X30 h
set_option maxHeartbeats 4000000 in
set_option maxRecDepth 100000 in
theorem c_X3_latestTakings (l : Launch) (D : va_G) (cI cZ cB : ClassId) (sz : Nat) (lo : Nat) (l0 : Nat) (l1 : Nat) (l2 : Nat) (l3 : Nat) (l4 : Nat) (l5 : Nat) (l6 : Nat) (dn : Int32) (kn : Int32) (m3 : Nat → Int32) (hdn : 0 ≤ dn.toInt ∧ dn.toInt ≤ 512) (hm3 : kt_r m3 512 0 4) : kt_Mi l yX3_latestTakings wsX3_latestTakings { frames := 0, cells := 0, slots := 0, locals := 0 } D (kt_ty cI cZ cB) [.ref lo] sz [(lo, .inr (3, [.ref l0, .ref l1, .ref l2, .ref l3, .ref l4, .ref l5, .ref l6, .int dn, .int kn])), (l3, .inl (cI, 512, .inl m3))] (fun (r : Int32) (u : Unit) => -1 ≤ r.toInt ∧ r.toInt ≤ 4) (fun (u : Unit) => [(lo, .inr (3, [.ref l0, .ref l1, .ref l2, .ref l3, .ref l4, .ref l5, .ref l6, .int dn, .int kn])), (l3, .inl (cI, 512, .inl m3))]) 0 0 := by
  refine kt_Mi.of (cc := cX3_latestTakings) (maxL := 1) (ret := some .int) (by decide) rfl (Nat.le_of_ble_eq_true rfl) ?_
  intro p e s m below meth c A ls H hAt hP hD hS hl
  obtain ⟨hx, hb, hr, hml, hown, hts, hN, hK, hlk, hnm, hA⟩ := hAt
  have hl : lv_has ls 1 [(0, .ref lo)] := hl
  have hown : s.vm.findClass RX3 = some m.cls := hown
  refine lv_aload_n hx hb dX3_latestTakings_0 rfl (lv_at hl 0 rfl) ?_
  refine va_get (D := D) (ci := 3) (C := RX3) (T := TX3) (N := 9) hx hb hts iw_X3_latestTakings_X3 hown hK hP 0 rfl rfl 7 (by decide) (hts (.fieldLink RX3 33 "KingTable$Log" "done" "I") (List.mem_cons_of_mem _ (List.mem_append_left _ (List.Mem.head _)))) (fun _ h9 => h9) rfl dX3_latestTakings_1 ?_
  refine lv_if_le (tgt := 21) hx hb dX3_latestTakings_4 (by decide) (fun c_4 => ?_) (fun c_4 => ?_)
  · have d_4 := c_4
    simp only [kt_lt, kt_le, kt_eq, kt_c0, kt_c1, kt_c2, kt_c3, kt_c4, kt_c8, kt_c9, kt_cm1, kt_c81, kt_c40, kt_c7, kt_c5, kt_c6, kt_c512, kt_c10, kt_c10000] at d_4
    refine lv_iconst (v := (-1)) hx hb dX3_latestTakings_21 (by decide) ?_
    exact kt_ri () hx hb hr hlk hS dX3_latestTakings_22 hP hD (by show -1 ≤ (-1 : Int32).toInt ∧ (-1 : Int32).toInt ≤ 4; first | omega | decide)
  · have d_4 := c_4
    simp only [kt_lt, kt_le, kt_eq, kt_c0, kt_c1, kt_c2, kt_c3, kt_c4, kt_c8, kt_c9, kt_cm1, kt_c81, kt_c40, kt_c7, kt_c5, kt_c6, kt_c512, kt_c10, kt_c10000] at d_4
    refine lv_aload_n hx hb dX3_latestTakings_7 rfl (lv_at hl 0 rfl) ?_
    refine va_get (D := D) (ci := 3) (C := RX3) (T := TX3) (N := 9) hx hb hts iw_X3_latestTakings_X3 hown hK hP 0 rfl rfl 3 (by decide) (hts (.fieldLink RX3 21 "KingTable$Log" "takings" "[I") (List.mem_cons_of_mem _ (List.mem_append_left _ (List.mem_cons_of_mem _ (List.Mem.head _))))) (fun _ h9 => h9) rfl dX3_latestTakings_8 ?_
    refine lv_aload_n hx hb dX3_latestTakings_11 rfl (lv_at hl 0 rfl) ?_
    refine va_get (D := D) (ci := 3) (C := RX3) (T := TX3) (N := 9) hx hb hts iw_X3_latestTakings_X3 hown hK hP 0 rfl rfl 7 (by decide) (hts (.fieldLink RX3 33 "KingTable$Log" "done" "I") (List.mem_cons_of_mem _ (List.mem_append_left _ (List.Mem.head _)))) (fun _ h9 => h9) rfl dX3_latestTakings_12 ?_
    refine lv_iconst (v := 1) hx hb dX3_latestTakings_15 (by decide) ?_
    refine lv_isub hx hb dX3_latestTakings_16 ?_
    refine lv_topi (fun t_16 et_16 => ?_)
    obtain ⟨k_16, hk_16, hm_16, hM_16⟩ := kt_subk et_16
    try simp only [kt_c0, kt_c1, kt_c2, kt_c3, kt_c4, kt_c8, kt_c9, kt_cm1, kt_c81, kt_c40, kt_c7, kt_c5, kt_c6, kt_c512, kt_c10, kt_c10000] at hk_16
    have hi_1 : vp_in t_16 512 := by exact kt_in (by omega) (by omega)
    refine va_iald hx hb hK hP 1 0 rfl rfl hi_1 dX3_latestTakings_17 ?_
    refine lv_topi (fun a_17 ea_17 => ?_)
    have ra_17 := hm3.get hi_1
    rw [← ea_17] at ra_17
    refine lv_goto (tgt := 22) hx hb dX3_latestTakings_18 (by decide) ?_
    exact kt_ri () hx hb hr hlk hS dX3_latestTakings_22 hP hD (by show -1 ≤ a_17.toInt ∧ a_17.toInt ≤ 4; first | omega | decide)

theorem iw_X3_latestVictim_X3 : ∀ w ∈ wsX30, w ∈ wsX3_latestVictim := fun _ h => kt_wp_X3_latestVictim__X30 h
set_option maxHeartbeats 4000000 in
set_option maxRecDepth 100000 in
theorem c_X3_latestVictim (l : Launch) (D : va_G) (cI cZ cB : ClassId) (sz : Nat) (lo : Nat) (l0 : Nat) (l1 : Nat) (l2 : Nat) (l3 : Nat) (l4 : Nat) (l5 : Nat) (l6 : Nat) (dn : Int32) (kn : Int32) (m3 : Nat → Int32) (m4 : Nat → Int32) (p1 : Int32) (hdn : 0 ≤ dn.toInt ∧ dn.toInt ≤ 512) (hm3 : kt_r m3 512 0 4) (hm4 : kt_r m4 2048 0 39) : kt_Mi l yX3_latestVictim wsX3_latestVictim { frames := 0, cells := 0, slots := 0, locals := 0 } D (kt_ty cI cZ cB) [.ref lo, .int p1] sz [(lo, .inr (3, [.ref l0, .ref l1, .ref l2, .ref l3, .ref l4, .ref l5, .ref l6, .int dn, .int kn])), (l3, .inl (cI, 512, .inl m3)), (l4, .inl (cI, 2048, .inl m4))] (fun (r : Int32) (u : Unit) => -1 ≤ r.toInt ∧ r.toInt ≤ 39) (fun (u : Unit) => [(lo, .inr (3, [.ref l0, .ref l1, .ref l2, .ref l3, .ref l4, .ref l5, .ref l6, .int dn, .int kn])), (l3, .inl (cI, 512, .inl m3)), (l4, .inl (cI, 2048, .inl m4))]) 0 0 := by
  refine kt_Mi.of (cc := cX3_latestVictim) (maxL := 3) (ret := some .int) (by decide) rfl (Nat.le_of_ble_eq_true rfl) ?_
  intro p e s m below meth c A ls H hAt hP hD hS hl
  obtain ⟨hx, hb, hr, hml, hown, hts, hN, hK, hlk, hnm, hA⟩ := hAt
  have hl : lv_has ls 3 [(0, .ref lo), (1, .int p1)] := hl
  have hown : s.vm.findClass RX3 = some m.cls := hown
  refine lv_aload_n hx hb dX3_latestVictim_0 rfl (lv_at hl 0 rfl) ?_
  refine va_get (D := D) (ci := 3) (C := RX3) (T := TX3) (N := 9) hx hb hts iw_X3_latestVictim_X3 hown hK hP 0 rfl rfl 7 (by decide) (hts (.fieldLink RX3 33 "KingTable$Log" "done" "I") (List.mem_cons_of_mem _ (List.mem_append_left _ (List.Mem.head _)))) (fun _ h9 => h9) rfl dX3_latestVictim_1 ?_
  refine lv_if_le (tgt := 30) hx hb dX3_latestVictim_4 (by decide) (fun c_4 => ?_) (fun c_4 => ?_)
  · have d_4 := c_4
    simp only [kt_lt, kt_le, kt_eq, kt_c0, kt_c1, kt_c2, kt_c3, kt_c4, kt_c8, kt_c9, kt_cm1, kt_c81, kt_c40, kt_c7, kt_c5, kt_c6, kt_c512, kt_c10, kt_c10000] at d_4
    refine lv_iconst (v := 0) hx hb dX3_latestVictim_30 (by decide) ?_
    refine lv_istore_n (lv' := [(2, .int 0), (0, .ref lo), (1, .int p1)]) hx hb dX3_latestVictim_31 rfl hl (by decide) rfl (fun ls hl => ?_)
    refine lv_iload_n hx hb dX3_latestVictim_32 rfl (lv_at hl 0 rfl) ?_
    refine lv_if_eq (tgt := 54) hx hb dX3_latestVictim_33 (by decide) (fun c_33 => ?_) (fun c_33 => absurd c_33 (by decide))
    refine lv_iconst (v := (-1)) hx hb dX3_latestVictim_54 (by decide) ?_
    exact kt_ri () hx hb hr hlk hS dX3_latestVictim_55 hP hD (by show -1 ≤ (-1 : Int32).toInt ∧ (-1 : Int32).toInt ≤ 39; first | omega | decide)
  · have d_4 := c_4
    simp only [kt_lt, kt_le, kt_eq, kt_c0, kt_c1, kt_c2, kt_c3, kt_c4, kt_c8, kt_c9, kt_cm1, kt_c81, kt_c40, kt_c7, kt_c5, kt_c6, kt_c512, kt_c10, kt_c10000] at d_4
    refine lv_iload_n hx hb dX3_latestVictim_7 rfl (lv_at hl 1 rfl) ?_
    refine lv_if_lt (tgt := 30) hx hb dX3_latestVictim_8 (by decide) (fun c_8 => ?_) (fun c_8 => ?_)
    · have d_8 := c_8
      simp only [kt_lt, kt_le, kt_eq, kt_c0, kt_c1, kt_c2, kt_c3, kt_c4, kt_c8, kt_c9, kt_cm1, kt_c81, kt_c40, kt_c7, kt_c5, kt_c6, kt_c512, kt_c10, kt_c10000] at d_8
      refine lv_iconst (v := 0) hx hb dX3_latestVictim_30 (by decide) ?_
      refine lv_istore_n (lv' := [(2, .int 0), (0, .ref lo), (1, .int p1)]) hx hb dX3_latestVictim_31 rfl hl (by decide) rfl (fun ls hl => ?_)
      refine lv_iload_n hx hb dX3_latestVictim_32 rfl (lv_at hl 0 rfl) ?_
      refine lv_if_eq (tgt := 54) hx hb dX3_latestVictim_33 (by decide) (fun c_33 => ?_) (fun c_33 => absurd c_33 (by decide))
      refine lv_iconst (v := (-1)) hx hb dX3_latestVictim_54 (by decide) ?_
      exact kt_ri () hx hb hr hlk hS dX3_latestVictim_55 hP hD (by show -1 ≤ (-1 : Int32).toInt ∧ (-1 : Int32).toInt ≤ 39; first | omega | decide)
    · have d_8 := c_8
      simp only [kt_lt, kt_le, kt_eq, kt_c0, kt_c1, kt_c2, kt_c3, kt_c4, kt_c8, kt_c9, kt_cm1, kt_c81, kt_c40, kt_c7, kt_c5, kt_c6, kt_c512, kt_c10, kt_c10000] at d_8
      refine lv_iload_n hx hb dX3_latestVictim_11 rfl (lv_at hl 1 rfl) ?_
      refine lv_aload_n hx hb dX3_latestVictim_12 rfl (lv_at hl 0 rfl) ?_
      refine va_get (D := D) (ci := 3) (C := RX3) (T := TX3) (N := 9) hx hb hts iw_X3_latestVictim_X3 hown hK hP 0 rfl rfl 3 (by decide) (hts (.fieldLink RX3 21 "KingTable$Log" "takings" "[I") (List.mem_cons_of_mem _ (List.mem_append_left _ (List.mem_cons_of_mem _ (List.Mem.head _))))) (fun _ h9 => h9) rfl dX3_latestVictim_13 ?_
      refine lv_aload_n hx hb dX3_latestVictim_16 rfl (lv_at hl 0 rfl) ?_
      refine va_get (D := D) (ci := 3) (C := RX3) (T := TX3) (N := 9) hx hb hts iw_X3_latestVictim_X3 hown hK hP 0 rfl rfl 7 (by decide) (hts (.fieldLink RX3 33 "KingTable$Log" "done" "I") (List.mem_cons_of_mem _ (List.mem_append_left _ (List.Mem.head _)))) (fun _ h9 => h9) rfl dX3_latestVictim_17 ?_
      refine lv_iconst (v := 1) hx hb dX3_latestVictim_20 (by decide) ?_
      refine lv_isub hx hb dX3_latestVictim_21 ?_
      refine lv_topi (fun t_21 et_21 => ?_)
      obtain ⟨k_21, hk_21, hm_21, hM_21⟩ := kt_subk et_21
      try simp only [kt_c0, kt_c1, kt_c2, kt_c3, kt_c4, kt_c8, kt_c9, kt_cm1, kt_c81, kt_c40, kt_c7, kt_c5, kt_c6, kt_c512, kt_c10, kt_c10000] at hk_21
      have hi_1 : vp_in t_21 512 := by exact kt_in (by omega) (by omega)
      refine va_iald hx hb hK hP 1 0 rfl rfl hi_1 dX3_latestVictim_22 ?_
      refine lv_topi (fun a_22 ea_22 => ?_)
      have ra_22 := hm3.get hi_1
      rw [← ea_22] at ra_22
      refine lv_icmp_ge (tgt := 30) hx hb dX3_latestVictim_23 (by decide) (fun c_23 => ?_) (fun c_23 => ?_)
      · have d_23 := c_23
        simp only [kt_lt, kt_le, kt_eq, kt_c0, kt_c1, kt_c2, kt_c3, kt_c4, kt_c8, kt_c9, kt_cm1, kt_c81, kt_c40, kt_c7, kt_c5, kt_c6, kt_c512, kt_c10, kt_c10000] at d_23
        refine lv_iconst (v := 0) hx hb dX3_latestVictim_30 (by decide) ?_
        refine lv_istore_n (lv' := [(2, .int 0), (0, .ref lo), (1, .int p1)]) hx hb dX3_latestVictim_31 rfl hl (by decide) rfl (fun ls hl => ?_)
        refine lv_iload_n hx hb dX3_latestVictim_32 rfl (lv_at hl 0 rfl) ?_
        refine lv_if_eq (tgt := 54) hx hb dX3_latestVictim_33 (by decide) (fun c_33 => ?_) (fun c_33 => absurd c_33 (by decide))
        refine lv_iconst (v := (-1)) hx hb dX3_latestVictim_54 (by decide) ?_
        exact kt_ri () hx hb hr hlk hS dX3_latestVictim_55 hP hD (by show -1 ≤ (-1 : Int32).toInt ∧ (-1 : Int32).toInt ≤ 39; first | omega | decide)
      · have d_23 := c_23
        simp only [kt_lt, kt_le, kt_eq, kt_c0, kt_c1, kt_c2, kt_c3, kt_c4, kt_c8, kt_c9, kt_cm1, kt_c81, kt_c40, kt_c7, kt_c5, kt_c6, kt_c512, kt_c10, kt_c10000] at d_23
        refine lv_iconst (v := 1) hx hb dX3_latestVictim_26 (by decide) ?_
        refine lv_goto (tgt := 31) hx hb dX3_latestVictim_27 (by decide) ?_
        refine lv_istore_n (lv' := [(2, .int 1), (0, .ref lo), (1, .int p1)]) hx hb dX3_latestVictim_31 rfl hl (by decide) rfl (fun ls hl => ?_)
        refine lv_iload_n hx hb dX3_latestVictim_32 rfl (lv_at hl 0 rfl) ?_
        refine lv_if_eq (tgt := 54) hx hb dX3_latestVictim_33 (by decide) (fun c_33 => absurd c_33 (by decide)) (fun c_33 => ?_)
        refine lv_aload_n hx hb dX3_latestVictim_36 rfl (lv_at hl 1 rfl) ?_
        refine va_get (D := D) (ci := 3) (C := RX3) (T := TX3) (N := 9) hx hb hts iw_X3_latestVictim_X3 hown hK hP 0 rfl rfl 4 (by decide) (hts (.fieldLink RX3 24 "KingTable$Log" "victims" "[I") (List.mem_cons_of_mem _ (List.mem_append_left _ (List.mem_cons_of_mem _ (List.mem_cons_of_mem _ (List.Mem.head _)))))) (fun _ h9 => h9) rfl dX3_latestVictim_37 ?_
        refine lv_aload_n hx hb dX3_latestVictim_40 rfl (lv_at hl 1 rfl) ?_
        refine va_get (D := D) (ci := 3) (C := RX3) (T := TX3) (N := 9) hx hb hts iw_X3_latestVictim_X3 hown hK hP 0 rfl rfl 7 (by decide) (hts (.fieldLink RX3 33 "KingTable$Log" "done" "I") (List.mem_cons_of_mem _ (List.mem_append_left _ (List.Mem.head _)))) (fun _ h9 => h9) rfl dX3_latestVictim_41 ?_
        refine lv_iconst (v := 1) hx hb dX3_latestVictim_44 (by decide) ?_
        refine lv_isub hx hb dX3_latestVictim_45 ?_
        refine lv_topi (fun t_45 et_45 => ?_)
        obtain ⟨k_45, hk_45, hm_45, hM_45⟩ := kt_subk et_45
        try simp only [kt_c0, kt_c1, kt_c2, kt_c3, kt_c4, kt_c8, kt_c9, kt_cm1, kt_c81, kt_c40, kt_c7, kt_c5, kt_c6, kt_c512, kt_c10, kt_c10000] at hk_45
        refine lv_iconst (v := 4) hx hb dX3_latestVictim_46 (by decide) ?_
        refine lv_imul hx hb dX3_latestVictim_47 ?_
        refine lv_topi (fun t_47 et_47 => ?_)
        obtain ⟨k_47, hk_47, hm_47, hM_47⟩ := kt_mulk (C := 4) et_47 (by decide)
        try simp only [kt_c0, kt_c1, kt_c2, kt_c3, kt_c4, kt_c8, kt_c9, kt_cm1, kt_c81, kt_c40, kt_c7, kt_c5, kt_c6, kt_c512, kt_c10, kt_c10000] at hk_47
        refine lv_iload_n hx hb dX3_latestVictim_48 rfl (lv_at hl 2 rfl) ?_
        refine lv_iadd hx hb dX3_latestVictim_49 ?_
        refine lv_topi (fun t_49 et_49 => ?_)
        obtain ⟨k_49, hk_49, hm_49, hM_49⟩ := kt_addk et_49
        have hi_2 : vp_in t_49 2048 := by exact kt_in (by omega) (by omega)
        refine va_iald hx hb hK hP 2 0 rfl rfl hi_2 dX3_latestVictim_50 ?_
        refine lv_topi (fun a_50 ea_50 => ?_)
        have ra_50 := hm4.get hi_2
        rw [← ea_50] at ra_50
        refine lv_goto (tgt := 55) hx hb dX3_latestVictim_51 (by decide) ?_
        exact kt_ri () hx hb hr hlk hS dX3_latestVictim_55 hP hD (by show -1 ≤ a_50.toInt ∧ a_50.toInt ≤ 39; first | omega | decide)

theorem iw_X3_write_X3 : ∀ w ∈ wsX30, w ∈ wsX3_write := fun _ h => kt_wp_X3_write__X30 h
theorem iw_X3_write_X6 : ∀ w ∈ wsX60, w ∈ wsX3_write := fun _ h => kt_wp_X3_write__X60 h
set_option maxHeartbeats 4000000 in
set_option maxRecDepth 100000 in
theorem c_X3_write (l : Launch) (D : va_G) (cI cZ cB : ClassId) (sz : Nat) (lo : Nat) (l0 : Nat) (l1 : Nat) (l2 : Nat) (l3 : Nat) (l4 : Nat) (l5 : Nat) (l6 : Nat) (dn : Int32) (kn : Int32) (m0 : Nat → Int32) (m1 : Nat → Int32) (m2 : Nat → Int32) (m3 : Nat → Int32) (m4 : Nat → Int32) (m5 : Nat → Int32) (nw : Nat) (sf : Nat) (sh : Nat) (tu : Int32) (ff : Nat → Int32) (ru : Nat) (la : Nat) (gr : Nat) (rk : Nat) (rs : Nat) (rt : Nat) (rv : Nat) (tt : Int32) (kg : Int32) (vc : Int32) (fv : Nat → Int32) (p1 : Int32) (p2 : Int32) (hdn : 0 ≤ dn.toInt ∧ dn.toInt ≤ 512) (hkn : 0 ≤ kn.toInt ∧ kn.toInt ≤ 512) (hm0 : kt_r m0 512 0 39) (hm1 : kt_r m1 512 (-1) 80) (hm2 : kt_r m2 512 (-1) 80) (hm3 : kt_r m3 512 0 4) (hm4 : kt_r m4 2048 0 39) (hm5 : kt_r m5 2048 (-1) 80) (hff : kt_r ff 40 (-1) 80) (hvc : 0 ≤ vc.toInt ∧ vc.toInt ≤ 4) (hrv : kt_r fv 4 0 39) (hp1 : 0 ≤ p1.toInt ∧ p1.toInt ≤ 39) (hp2 : -1 ≤ p2.toInt ∧ p2.toInt ≤ 80) : kt_Mv l yX3_write wsX3_write { frames := 1, cells := 0, slots := 0, locals := 21 } D (kt_ty cI cZ cB) [.ref lo, .ref nw, .int p1, .int p2, .ref ru] sz [(lo, .inr (3, [.ref l0, .ref l1, .ref l2, .ref l3, .ref l4, .ref l5, .ref l6, .int dn, .int kn])), (l0, .inl (cI, 512, .inl m0)), (l1, .inl (cI, 512, .inl m1)), (l2, .inl (cI, 512, .inl m2)), (l3, .inl (cI, 512, .inl m3)), (l4, .inl (cI, 2048, .inl m4)), (l5, .inl (cI, 2048, .inl m5)), (nw, .inr (8, [.ref sf, .ref sh, .int tu])), (sf, .inl (cI, 40, .inl ff)), (ru, .inr (6, [.ref la, .ref gr, .ref rk, .ref rs, .ref rt, .int tt, .int kg, .ref rv, .int vc])), (rv, .inl (cI, 4, .inl fv))] (fun (u : Int32 × Int32 × (Nat → Int32) × (Nat → Int32) × (Nat → Int32) × (Nat → Int32) × (Nat → Int32) × (Nat → Int32)) => (0 ≤ u.1.toInt ∧ u.1.toInt ≤ 512) ∧ (0 ≤ u.2.1.toInt ∧ u.2.1.toInt ≤ 512) ∧ kt_r u.2.2.1 512 0 39 ∧ kt_r u.2.2.2.1 512 (-1) 80 ∧ kt_r u.2.2.2.2.1 512 (-1) 80 ∧ kt_r u.2.2.2.2.2.1 512 0 4 ∧ kt_r u.2.2.2.2.2.2.1 2048 0 39 ∧ kt_r u.2.2.2.2.2.2.2 2048 (-1) 80) (fun (u : Int32 × Int32 × (Nat → Int32) × (Nat → Int32) × (Nat → Int32) × (Nat → Int32) × (Nat → Int32) × (Nat → Int32)) => [(lo, .inr (3, [.ref l0, .ref l1, .ref l2, .ref l3, .ref l4, .ref l5, .ref l6, .int u.1, .int u.2.1])), (l0, .inl (cI, 512, .inl u.2.2.1)), (l1, .inl (cI, 512, .inl u.2.2.2.1)), (l2, .inl (cI, 512, .inl u.2.2.2.2.1)), (l3, .inl (cI, 512, .inl u.2.2.2.2.2.1)), (l4, .inl (cI, 2048, .inl u.2.2.2.2.2.2.1)), (l5, .inl (cI, 2048, .inl u.2.2.2.2.2.2.2)), (nw, .inr (8, [.ref sf, .ref sh, .int tu])), (sf, .inl (cI, 40, .inl ff)), (ru, .inr (6, [.ref la, .ref gr, .ref rk, .ref rs, .ref rt, .int tt, .int kg, .ref rv, .int vc])), (rv, .inl (cI, 4, .inl fv))]) 0 0 := by
  refine kt_Mv.of (cc := cX3_write) (maxL := 6) (ret := none) (by decide) rfl (Nat.le_of_ble_eq_true rfl) ?_
  intro p e s m below meth c A ls H hAt hP hD hS hl
  obtain ⟨hx, hb, hr, hml, hown, hts, hN, hK, hlk, hnm, hA⟩ := hAt
  have hl : lv_has ls 6 [(0, .ref lo), (1, .ref nw), (2, .int p1), (3, .int p2), (4, .ref ru)] := hl
  have hown : s.vm.findClass RX3 = some m.cls := hown
  refine lv_aload_n hx hb dX3_write_0 rfl (lv_at hl 0 rfl) ?_
  refine kt_pi (wc := [(lo, .inr (3, [.ref l0, .ref l1, .ref l2, .ref l3, .ref l4, .ref l5, .ref l6, .int dn, .int kn]))]) [0] hP hD hS hA rfl (by decide) (fun hPc hDc => va_runV (As := []) (rest := []) ⟨hx, hb, hml, hown, hts⟩ (c_X3_isFull l D cI cZ cB H.size lo l0 l1 l2 l3 l4 l5 l6 dn kn ) (cwV 0 hts gX3_write_X3_isFull rfl rfl rfl (by decide +kernel) ⟨Nat.le_of_ble_eq_true rfl, Nat.le_of_ble_eq_true rfl⟩) (kt_preV hN hK hPc hDc 0 (ci := 3) (q := (RX3, TX3, 9)) rfl rfl) rfl rfl hl.1 rfl (lv_room (Nat.le_of_ble_eq_true rfl)) dX3_write_1 ⟨Nat.le_of_ble_eq_true rfl, Nat.le_of_ble_eq_true rfl⟩) (fun r_1 _ H locs hw_1 hP hS => ?_)
  have hq1 := hw_1
  refine lv_if_eq (tgt := 8) hx hb dX3_write_4 (by decide) (fun c_4 => ?_) (fun c_4 => ?_)
  · have d_4 := c_4
    simp only [kt_lt, kt_le, kt_eq, kt_c0, kt_c1, kt_c2, kt_c3, kt_c4, kt_c8, kt_c9, kt_cm1, kt_c81, kt_c40, kt_c7, kt_c5, kt_c6, kt_c512, kt_c10, kt_c10000] at d_4
    have hq1 := hq1.f c_4
    refine lv_aload_n hx hb dX3_write_8 rfl (lv_at hl 0 rfl) ?_
    refine va_get (D := D) (ci := 3) (C := RX3) (T := TX3) (N := 9) hx hb hts iw_X3_write_X3 hown hK hP 0 rfl rfl 0 (by decide) (hts (.fieldLink RX3 9 "KingTable$Log" "movers" "[I") (List.mem_cons_of_mem _ (List.mem_append_left _ (List.mem_append_left _ (List.mem_append_left _ (List.Mem.head _)))))) (fun _ h9 => h9) rfl dX3_write_9 ?_
    refine lv_aload_n hx hb dX3_write_12 rfl (lv_at hl 0 rfl) ?_
    refine va_get (D := D) (ci := 3) (C := RX3) (T := TX3) (N := 9) hx hb hts iw_X3_write_X3 hown hK hP 0 rfl rfl 7 (by decide) (hts (.fieldLink RX3 33 "KingTable$Log" "done" "I") (List.mem_cons_of_mem _ (List.mem_append_left _ (List.mem_append_left _ (List.mem_append_left _ (List.mem_cons_of_mem _ (List.Mem.head _))))))) (fun _ h9 => h9) rfl dX3_write_13 ?_
    refine lv_iload_n hx hb dX3_write_16 rfl (lv_at hl 2 rfl) ?_
    have hi_1 : vp_in dn 512 := by exact kt_in (by omega) (by omega)
    refine va_iast hx hb hK hP hD hS 1 0 rfl rfl hi_1 dX3_write_17 (fun H locs hP hD hS => ?_)
    have hm0 : kt_r (upd m0 dn.toNatClampNeg p1) 512 0 39 := hm0.upd (by omega) (by omega)
    have hP : va_P D vwCl [(lo, .inr (3, [.ref l0, .ref l1, .ref l2, .ref l3, .ref l4, .ref l5, .ref l6, .int dn, .int kn])), (l0, .inl (cI, 512, .inl (upd m0 dn.toNatClampNeg p1))), (l1, .inl (cI, 512, .inl m1)), (l2, .inl (cI, 512, .inl m2)), (l3, .inl (cI, 512, .inl m3)), (l4, .inl (cI, 2048, .inl m4)), (l5, .inl (cI, 2048, .inl m5)), (nw, .inr (8, [.ref sf, .ref sh, .int tu])), (sf, .inl (cI, 40, .inl ff)), (ru, .inr (6, [.ref la, .ref gr, .ref rk, .ref rs, .ref rt, .int tt, .int kg, .ref rv, .int vc])), (rv, .inl (cI, 4, .inl fv))] H := hP
    have hD : va_D A [(lo, .inr (3, [.ref l0, .ref l1, .ref l2, .ref l3, .ref l4, .ref l5, .ref l6, .int dn, .int kn])), (l0, .inl (cI, 512, .inl (upd m0 dn.toNatClampNeg p1))), (l1, .inl (cI, 512, .inl m1)), (l2, .inl (cI, 512, .inl m2)), (l3, .inl (cI, 512, .inl m3)), (l4, .inl (cI, 2048, .inl m4)), (l5, .inl (cI, 2048, .inl m5)), (nw, .inr (8, [.ref sf, .ref sh, .int tu])), (sf, .inl (cI, 40, .inl ff)), (ru, .inr (6, [.ref la, .ref gr, .ref rk, .ref rs, .ref rt, .int tt, .int kg, .ref rv, .int vc])), (rv, .inl (cI, 4, .inl fv))] := hD
    refine lv_aload_n hx hb dX3_write_18 rfl (lv_at hl 0 rfl) ?_
    refine va_get (D := D) (ci := 3) (C := RX3) (T := TX3) (N := 9) hx hb hts iw_X3_write_X3 hown hK hP 0 rfl rfl 1 (by decide) (hts (.fieldLink RX3 15 "KingTable$Log" "froms" "[I") (List.mem_cons_of_mem _ (List.mem_append_left _ (List.mem_append_left _ (List.mem_append_left _ (List.mem_cons_of_mem _ (List.mem_cons_of_mem _ (List.Mem.head _)))))))) (fun _ h9 => h9) rfl dX3_write_19 ?_
    refine lv_aload_n hx hb dX3_write_22 rfl (lv_at hl 0 rfl) ?_
    refine va_get (D := D) (ci := 3) (C := RX3) (T := TX3) (N := 9) hx hb hts iw_X3_write_X3 hown hK hP 0 rfl rfl 7 (by decide) (hts (.fieldLink RX3 33 "KingTable$Log" "done" "I") (List.mem_cons_of_mem _ (List.mem_append_left _ (List.mem_append_left _ (List.mem_append_left _ (List.mem_cons_of_mem _ (List.Mem.head _))))))) (fun _ h9 => h9) rfl dX3_write_23 ?_
    refine lv_aload_n hx hb dX3_write_26 rfl (lv_at hl 1 rfl) ?_
    refine lv_iload_n hx hb dX3_write_27 rfl (lv_at hl 2 rfl) ?_
    refine kt_pi (wc := [(nw, .inr (8, [.ref sf, .ref sh, .int tu])), (sf, .inl (cI, 40, .inl ff))]) [7, 8] hP hD hS hA rfl (by decide) (fun hPc hDc => va_runV (As := [.int p1]) (rest := [.int dn, .ref l1]) ⟨hx, hb, hml, hown, hts⟩ (c_X8_fieldOf l D cI cZ cB H.size nw sf sh tu ff p1 (by first | assumption | omega | rfl | decide)) (cwV 1 hts gX3_write_X8_fieldOf rfl rfl rfl (by decide +kernel) ⟨Nat.le_of_ble_eq_true rfl, Nat.le_of_ble_eq_true rfl⟩) (kt_preV hN hK hPc hDc 0 (ci := 8) (q := (RX8, TX8, 3)) rfl rfl) rfl rfl hl.1 rfl (lv_room (Nat.le_of_ble_eq_true rfl)) dX3_write_28 ⟨Nat.le_of_ble_eq_true rfl, Nat.le_of_ble_eq_true rfl⟩) (fun r_28 _ H locs hw_28 hP hS => ?_)
    have hi_2 : vp_in dn 512 := by exact kt_in (by omega) (by omega)
    refine va_iast hx hb hK hP hD hS 2 0 rfl rfl hi_2 dX3_write_31 (fun H locs hP hD hS => ?_)
    have hm1 : kt_r (upd m1 dn.toNatClampNeg r_28) 512 (-1) 80 := hm1.upd (by omega) (by omega)
    have hP : va_P D vwCl [(lo, .inr (3, [.ref l0, .ref l1, .ref l2, .ref l3, .ref l4, .ref l5, .ref l6, .int dn, .int kn])), (l0, .inl (cI, 512, .inl (upd m0 dn.toNatClampNeg p1))), (l1, .inl (cI, 512, .inl (upd m1 dn.toNatClampNeg r_28))), (l2, .inl (cI, 512, .inl m2)), (l3, .inl (cI, 512, .inl m3)), (l4, .inl (cI, 2048, .inl m4)), (l5, .inl (cI, 2048, .inl m5)), (nw, .inr (8, [.ref sf, .ref sh, .int tu])), (sf, .inl (cI, 40, .inl ff)), (ru, .inr (6, [.ref la, .ref gr, .ref rk, .ref rs, .ref rt, .int tt, .int kg, .ref rv, .int vc])), (rv, .inl (cI, 4, .inl fv))] H := hP
    have hD : va_D A [(lo, .inr (3, [.ref l0, .ref l1, .ref l2, .ref l3, .ref l4, .ref l5, .ref l6, .int dn, .int kn])), (l0, .inl (cI, 512, .inl (upd m0 dn.toNatClampNeg p1))), (l1, .inl (cI, 512, .inl (upd m1 dn.toNatClampNeg r_28))), (l2, .inl (cI, 512, .inl m2)), (l3, .inl (cI, 512, .inl m3)), (l4, .inl (cI, 2048, .inl m4)), (l5, .inl (cI, 2048, .inl m5)), (nw, .inr (8, [.ref sf, .ref sh, .int tu])), (sf, .inl (cI, 40, .inl ff)), (ru, .inr (6, [.ref la, .ref gr, .ref rk, .ref rs, .ref rt, .int tt, .int kg, .ref rv, .int vc])), (rv, .inl (cI, 4, .inl fv))] := hD
    refine lv_aload_n hx hb dX3_write_32 rfl (lv_at hl 0 rfl) ?_
    refine va_get (D := D) (ci := 3) (C := RX3) (T := TX3) (N := 9) hx hb hts iw_X3_write_X3 hown hK hP 0 rfl rfl 2 (by decide) (hts (.fieldLink RX3 18 "KingTable$Log" "tos" "[I") (List.mem_cons_of_mem _ (List.mem_append_left _ (List.mem_append_left _ (List.mem_append_left _ (List.mem_cons_of_mem _ (List.mem_cons_of_mem _ (List.mem_cons_of_mem _ (List.Mem.head _))))))))) (fun _ h9 => h9) rfl dX3_write_33 ?_
    refine lv_aload_n hx hb dX3_write_36 rfl (lv_at hl 0 rfl) ?_
    refine va_get (D := D) (ci := 3) (C := RX3) (T := TX3) (N := 9) hx hb hts iw_X3_write_X3 hown hK hP 0 rfl rfl 7 (by decide) (hts (.fieldLink RX3 33 "KingTable$Log" "done" "I") (List.mem_cons_of_mem _ (List.mem_append_left _ (List.mem_append_left _ (List.mem_append_left _ (List.mem_cons_of_mem _ (List.Mem.head _))))))) (fun _ h9 => h9) rfl dX3_write_37 ?_
    refine lv_iload_n hx hb dX3_write_40 rfl (lv_at hl 3 rfl) ?_
    have hi_3 : vp_in dn 512 := by exact kt_in (by omega) (by omega)
    refine va_iast hx hb hK hP hD hS 3 0 rfl rfl hi_3 dX3_write_41 (fun H locs hP hD hS => ?_)
    have hm2 : kt_r (upd m2 dn.toNatClampNeg p2) 512 (-1) 80 := hm2.upd (by omega) (by omega)
    have hP : va_P D vwCl [(lo, .inr (3, [.ref l0, .ref l1, .ref l2, .ref l3, .ref l4, .ref l5, .ref l6, .int dn, .int kn])), (l0, .inl (cI, 512, .inl (upd m0 dn.toNatClampNeg p1))), (l1, .inl (cI, 512, .inl (upd m1 dn.toNatClampNeg r_28))), (l2, .inl (cI, 512, .inl (upd m2 dn.toNatClampNeg p2))), (l3, .inl (cI, 512, .inl m3)), (l4, .inl (cI, 2048, .inl m4)), (l5, .inl (cI, 2048, .inl m5)), (nw, .inr (8, [.ref sf, .ref sh, .int tu])), (sf, .inl (cI, 40, .inl ff)), (ru, .inr (6, [.ref la, .ref gr, .ref rk, .ref rs, .ref rt, .int tt, .int kg, .ref rv, .int vc])), (rv, .inl (cI, 4, .inl fv))] H := hP
    have hD : va_D A [(lo, .inr (3, [.ref l0, .ref l1, .ref l2, .ref l3, .ref l4, .ref l5, .ref l6, .int dn, .int kn])), (l0, .inl (cI, 512, .inl (upd m0 dn.toNatClampNeg p1))), (l1, .inl (cI, 512, .inl (upd m1 dn.toNatClampNeg r_28))), (l2, .inl (cI, 512, .inl (upd m2 dn.toNatClampNeg p2))), (l3, .inl (cI, 512, .inl m3)), (l4, .inl (cI, 2048, .inl m4)), (l5, .inl (cI, 2048, .inl m5)), (nw, .inr (8, [.ref sf, .ref sh, .int tu])), (sf, .inl (cI, 40, .inl ff)), (ru, .inr (6, [.ref la, .ref gr, .ref rk, .ref rs, .ref rt, .int tt, .int kg, .ref rv, .int vc])), (rv, .inl (cI, 4, .inl fv))] := hD
    refine lv_aload_n hx hb dX3_write_42 rfl (lv_at hl 0 rfl) ?_
    refine va_get (D := D) (ci := 3) (C := RX3) (T := TX3) (N := 9) hx hb hts iw_X3_write_X3 hown hK hP 0 rfl rfl 3 (by decide) (hts (.fieldLink RX3 21 "KingTable$Log" "takings" "[I") (List.mem_cons_of_mem _ (List.mem_append_left _ (List.mem_append_left _ (List.mem_append_left _ (List.mem_cons_of_mem _ (List.mem_cons_of_mem _ (List.mem_cons_of_mem _ (List.mem_cons_of_mem _ (List.Mem.head _)))))))))) (fun _ h9 => h9) rfl dX3_write_43 ?_
    refine lv_aload_n hx hb dX3_write_46 rfl (lv_at hl 0 rfl) ?_
    refine va_get (D := D) (ci := 3) (C := RX3) (T := TX3) (N := 9) hx hb hts iw_X3_write_X3 hown hK hP 0 rfl rfl 7 (by decide) (hts (.fieldLink RX3 33 "KingTable$Log" "done" "I") (List.mem_cons_of_mem _ (List.mem_append_left _ (List.mem_append_left _ (List.mem_append_left _ (List.mem_cons_of_mem _ (List.Mem.head _))))))) (fun _ h9 => h9) rfl dX3_write_47 ?_
    refine lv_aload hx hb dX3_write_50 (lv_at hl 4 rfl) ?_
    refine va_getN (D := D) (ci := 6) (C := RX6) (T := TX6) (N := 9) hx hb hts iw_X3_write_X6 hown hK hP 9 rfl rfl 8 (by decide) (va_Nw.use (w := .fieldLinkNest RX3 50 "KingTable$Rules" "victimCount" "I" "KingTable") rfl (hN _ (by decide +kernel))) (fun _ h9 => h9) rfl dX3_write_52 ?_
    have hi_4 : vp_in dn 512 := by exact kt_in (by omega) (by omega)
    refine va_iast hx hb hK hP hD hS 4 0 rfl rfl hi_4 dX3_write_55 (fun H locs hP hD hS => ?_)
    have hm3 : kt_r (upd m3 dn.toNatClampNeg vc) 512 0 4 := hm3.upd (by omega) (by omega)
    have hP : va_P D vwCl [(lo, .inr (3, [.ref l0, .ref l1, .ref l2, .ref l3, .ref l4, .ref l5, .ref l6, .int dn, .int kn])), (l0, .inl (cI, 512, .inl (upd m0 dn.toNatClampNeg p1))), (l1, .inl (cI, 512, .inl (upd m1 dn.toNatClampNeg r_28))), (l2, .inl (cI, 512, .inl (upd m2 dn.toNatClampNeg p2))), (l3, .inl (cI, 512, .inl (upd m3 dn.toNatClampNeg vc))), (l4, .inl (cI, 2048, .inl m4)), (l5, .inl (cI, 2048, .inl m5)), (nw, .inr (8, [.ref sf, .ref sh, .int tu])), (sf, .inl (cI, 40, .inl ff)), (ru, .inr (6, [.ref la, .ref gr, .ref rk, .ref rs, .ref rt, .int tt, .int kg, .ref rv, .int vc])), (rv, .inl (cI, 4, .inl fv))] H := hP
    have hD : va_D A [(lo, .inr (3, [.ref l0, .ref l1, .ref l2, .ref l3, .ref l4, .ref l5, .ref l6, .int dn, .int kn])), (l0, .inl (cI, 512, .inl (upd m0 dn.toNatClampNeg p1))), (l1, .inl (cI, 512, .inl (upd m1 dn.toNatClampNeg r_28))), (l2, .inl (cI, 512, .inl (upd m2 dn.toNatClampNeg p2))), (l3, .inl (cI, 512, .inl (upd m3 dn.toNatClampNeg vc))), (l4, .inl (cI, 2048, .inl m4)), (l5, .inl (cI, 2048, .inl m5)), (nw, .inr (8, [.ref sf, .ref sh, .int tu])), (sf, .inl (cI, 40, .inl ff)), (ru, .inr (6, [.ref la, .ref gr, .ref rk, .ref rs, .ref rt, .int tt, .int kg, .ref rv, .int vc])), (rv, .inl (cI, 4, .inl fv))] := hD
    refine lv_iconst (v := 0) hx hb dX3_write_56 (by decide) ?_
    refine lv_istore (lv' := [(5, .int 0), (0, .ref lo), (1, .ref nw), (2, .int p1), (3, .int p2), (4, .ref ru)]) hx hb dX3_write_57 hl (by decide) rfl (fun ls hl => ?_)
    refine kt_loop (σ := Nat × (Nat → Int32) × (Nat → Int32)) 59 6 (fun u => [(lo, .inr (3, [.ref l0, .ref l1, .ref l2, .ref l3, .ref l4, .ref l5, .ref l6, .int dn, .int kn])), (l0, .inl (cI, 512, .inl (upd m0 dn.toNatClampNeg p1))), (l1, .inl (cI, 512, .inl (upd m1 dn.toNatClampNeg r_28))), (l2, .inl (cI, 512, .inl (upd m2 dn.toNatClampNeg p2))), (l3, .inl (cI, 512, .inl (upd m3 dn.toNatClampNeg vc))), (l4, .inl (cI, 2048, .inl u.2.1)), (l5, .inl (cI, 2048, .inl u.2.2)), (nw, .inr (8, [.ref sf, .ref sh, .int tu])), (sf, .inl (cI, 40, .inl ff)), (ru, .inr (6, [.ref la, .ref gr, .ref rk, .ref rs, .ref rt, .int tt, .int kg, .ref rv, .int vc])), (rv, .inl (cI, 4, .inl fv))]) (fun u => [(5, .int (nI u.1)), (0, .ref lo), (1, .ref nw), (2, .int p1), (3, .int p2), (4, .ref ru)]) (fun n u => (u.1 ≤ 4 ∧ 4 < u.1 + n) ∧ kt_r u.2.1 2048 0 39 ∧ kt_r u.2.2 2048 (-1) 80) (fun u h => by omega) (fun n_59 ih_59 u hI H locs hP hD hS ls hl => ?_) (5) (0, m4, m5) (by show (0 ≤ 4 ∧ 4 < 0 + 5) ∧ kt_r m4 2048 0 39 ∧ kt_r m5 2048 (-1) 80; exact ⟨by decide, hm4, hm5⟩) hP hD hS (lv_sub hl [0, 1, 2, 3, 4, 5] rfl)
    obtain ⟨k, g4, g5⟩ := u
    have hP : va_P D vwCl [(lo, .inr (3, [.ref l0, .ref l1, .ref l2, .ref l3, .ref l4, .ref l5, .ref l6, .int dn, .int kn])), (l0, .inl (cI, 512, .inl (upd m0 dn.toNatClampNeg p1))), (l1, .inl (cI, 512, .inl (upd m1 dn.toNatClampNeg r_28))), (l2, .inl (cI, 512, .inl (upd m2 dn.toNatClampNeg p2))), (l3, .inl (cI, 512, .inl (upd m3 dn.toNatClampNeg vc))), (l4, .inl (cI, 2048, .inl g4)), (l5, .inl (cI, 2048, .inl g5)), (nw, .inr (8, [.ref sf, .ref sh, .int tu])), (sf, .inl (cI, 40, .inl ff)), (ru, .inr (6, [.ref la, .ref gr, .ref rk, .ref rs, .ref rt, .int tt, .int kg, .ref rv, .int vc])), (rv, .inl (cI, 4, .inl fv))] H := hP
    have hD : va_D A [(lo, .inr (3, [.ref l0, .ref l1, .ref l2, .ref l3, .ref l4, .ref l5, .ref l6, .int dn, .int kn])), (l0, .inl (cI, 512, .inl (upd m0 dn.toNatClampNeg p1))), (l1, .inl (cI, 512, .inl (upd m1 dn.toNatClampNeg r_28))), (l2, .inl (cI, 512, .inl (upd m2 dn.toNatClampNeg p2))), (l3, .inl (cI, 512, .inl (upd m3 dn.toNatClampNeg vc))), (l4, .inl (cI, 2048, .inl g4)), (l5, .inl (cI, 2048, .inl g5)), (nw, .inr (8, [.ref sf, .ref sh, .int tu])), (sf, .inl (cI, 40, .inl ff)), (ru, .inr (6, [.ref la, .ref gr, .ref rk, .ref rs, .ref rt, .int tt, .int kg, .ref rv, .int vc])), (rv, .inl (cI, 4, .inl fv))] := hD
    have hl : lv_has ls 6 [(5, .int (nI k)), (0, .ref lo), (1, .ref nw), (2, .int p1), (3, .int p2), (4, .ref ru)] := hl
    have hI : (k ≤ 4 ∧ 4 < k + (n_59 + 1)) ∧ kt_r g4 2048 0 39 ∧ kt_r g5 2048 (-1) 80 := hI
    obtain ⟨hkn0, hm4, hm5⟩ := hI
    have hk0 := kt_nI (n := k) (by omega)
    refine lv_iload hx hb dX3_write_59 (lv_at hl 0 rfl) ?_
    refine lv_aload hx hb dX3_write_61 (lv_at hl 5 rfl) ?_
    refine va_getN (D := D) (ci := 6) (C := RX6) (T := TX6) (N := 9) hx hb hts iw_X3_write_X6 hown hK hP 9 rfl rfl 8 (by decide) (va_Nw.use (w := .fieldLinkNest RX3 50 "KingTable$Rules" "victimCount" "I" "KingTable") rfl (hN _ (by decide +kernel))) (fun _ h9 => h9) rfl dX3_write_63 ?_
    refine lv_icmp_ge (tgt := 123) hx hb dX3_write_66 (by decide) (fun c_66 => ?_) (fun c_66 => ?_)
    · have d_66 := c_66
      simp only [kt_lt, kt_le, kt_eq, kt_c0, kt_c1, kt_c2, kt_c3, kt_c4, kt_c8, kt_c9, kt_cm1, kt_c81, kt_c40, kt_c7, kt_c5, kt_c6, kt_c512, kt_c10, kt_c10000] at d_66
      refine lv_aload_n hx hb dX3_write_123 rfl (lv_at hl 1 rfl) ?_
      refine lv_dup hx hb dX3_write_124 rfl ?_
      refine va_get (D := D) (ci := 3) (C := RX3) (T := TX3) (N := 9) hx hb hts iw_X3_write_X3 hown hK hP 0 rfl rfl 7 (by decide) (hts (.fieldLink RX3 33 "KingTable$Log" "done" "I") (List.mem_cons_of_mem _ (List.mem_append_left _ (List.mem_append_left _ (List.mem_append_left _ (List.mem_cons_of_mem _ (List.Mem.head _))))))) (fun _ h9 => h9) rfl dX3_write_125 ?_
      refine lv_iconst (v := 1) hx hb dX3_write_128 (by decide) ?_
      refine lv_iadd hx hb dX3_write_129 ?_
      refine lv_topi (fun t_129 et_129 => ?_)
      obtain ⟨k_129, hk_129, hm_129, hM_129⟩ := kt_addk et_129
      try simp only [kt_c0, kt_c1, kt_c2, kt_c3, kt_c4, kt_c8, kt_c9, kt_cm1, kt_c81, kt_c40, kt_c7, kt_c5, kt_c6, kt_c512, kt_c10, kt_c10000] at hk_129
      refine va_put (D := D) (ci := 3) (v := .int t_129) (ty := .int) (C := RX3) (T := TX3) (N := 9) hx hb hts iw_X3_write_X3 tyX3 tyX3_ok nmX3 hown hK hP hD hS 0 rfl rfl 7 (by decide) (hts (.fieldLink RX3 33 "KingTable$Log" "done" "I") (List.mem_cons_of_mem _ (List.mem_append_left _ (List.mem_append_left _ (List.mem_append_left _ (List.mem_cons_of_mem _ (List.Mem.head _))))))) (fun _ h9 => h9) rfl (by decide +kernel) rfl rfl (Nat.le_of_ble_eq_true rfl) dX3_write_130 (fun H locs hP hD hS => ?_)
      have hP : va_P D vwCl [(lo, .inr (3, [.ref l0, .ref l1, .ref l2, .ref l3, .ref l4, .ref l5, .ref l6, .int t_129, .int kn])), (l0, .inl (cI, 512, .inl (upd m0 dn.toNatClampNeg p1))), (l1, .inl (cI, 512, .inl (upd m1 dn.toNatClampNeg r_28))), (l2, .inl (cI, 512, .inl (upd m2 dn.toNatClampNeg p2))), (l3, .inl (cI, 512, .inl (upd m3 dn.toNatClampNeg vc))), (l4, .inl (cI, 2048, .inl g4)), (l5, .inl (cI, 2048, .inl g5)), (nw, .inr (8, [.ref sf, .ref sh, .int tu])), (sf, .inl (cI, 40, .inl ff)), (ru, .inr (6, [.ref la, .ref gr, .ref rk, .ref rs, .ref rt, .int tt, .int kg, .ref rv, .int vc])), (rv, .inl (cI, 4, .inl fv))] H := hP
      have hD : va_D A [(lo, .inr (3, [.ref l0, .ref l1, .ref l2, .ref l3, .ref l4, .ref l5, .ref l6, .int t_129, .int kn])), (l0, .inl (cI, 512, .inl (upd m0 dn.toNatClampNeg p1))), (l1, .inl (cI, 512, .inl (upd m1 dn.toNatClampNeg r_28))), (l2, .inl (cI, 512, .inl (upd m2 dn.toNatClampNeg p2))), (l3, .inl (cI, 512, .inl (upd m3 dn.toNatClampNeg vc))), (l4, .inl (cI, 2048, .inl g4)), (l5, .inl (cI, 2048, .inl g5)), (nw, .inr (8, [.ref sf, .ref sh, .int tu])), (sf, .inl (cI, 40, .inl ff)), (ru, .inr (6, [.ref la, .ref gr, .ref rk, .ref rs, .ref rt, .int tt, .int kg, .ref rv, .int vc])), (rv, .inl (cI, 4, .inl fv))] := hD
      refine lv_aload_n hx hb dX3_write_133 rfl (lv_at hl 1 rfl) ?_
      refine lv_aload_n hx hb dX3_write_134 rfl (lv_at hl 1 rfl) ?_
      refine va_get (D := D) (ci := 3) (C := RX3) (T := TX3) (N := 9) hx hb hts iw_X3_write_X3 hown hK hP 0 rfl rfl 8 (by decide) (hts (.fieldLink RX3 37 "KingTable$Log" "known" "I") (List.mem_cons_of_mem _ (List.mem_append_left _ (List.mem_append_left _ (List.mem_append_left _ (List.mem_cons_of_mem _ (List.mem_cons_of_mem _ (List.mem_cons_of_mem _ (List.mem_cons_of_mem _ (List.mem_cons_of_mem _ (List.mem_cons_of_mem _ (List.mem_cons_of_mem _ (List.Mem.head _))))))))))))) (fun _ h9 => h9) rfl dX3_write_135 ?_
      refine lv_aload_n hx hb dX3_write_138 rfl (lv_at hl 1 rfl) ?_
      refine va_get (D := D) (ci := 3) (C := RX3) (T := TX3) (N := 9) hx hb hts iw_X3_write_X3 hown hK hP 0 rfl rfl 7 (by decide) (hts (.fieldLink RX3 33 "KingTable$Log" "done" "I") (List.mem_cons_of_mem _ (List.mem_append_left _ (List.mem_append_left _ (List.mem_append_left _ (List.mem_cons_of_mem _ (List.Mem.head _))))))) (fun _ h9 => h9) rfl dX3_write_139 ?_
      refine va_mmax hx hb (by rw [hml]; exact hl.1.symm) hown (hts (.methodLink RX3 56 Lib.Math.max.name) (List.mem_cons_of_mem _ (List.mem_append_left _ (List.mem_append_left _ (List.mem_append_left _ (List.mem_cons_of_mem _ (List.mem_cons_of_mem _ (List.mem_cons_of_mem _ (List.mem_cons_of_mem _ (List.mem_cons_of_mem _ (List.mem_cons_of_mem _ (List.mem_cons_of_mem _ (List.mem_cons_of_mem _ (List.Mem.head _)))))))))))))) (hts (.static Lib.Math.max.name) (List.mem_cons_of_mem _ (List.mem_append_left _ (List.mem_append_left _ (List.mem_append_left _ (List.mem_cons_of_mem _ (List.mem_cons_of_mem _ (List.mem_cons_of_mem _ (List.mem_cons_of_mem _ (List.mem_cons_of_mem _ (List.mem_cons_of_mem _ (List.mem_cons_of_mem _ (List.mem_cons_of_mem _ (List.mem_cons_of_mem _ (List.Mem.head _))))))))))))))) (hts (.initialized "java/lang/Math") (List.mem_cons_of_mem _ (List.mem_append_left _ (List.mem_append_left _ (List.mem_append_left _ (List.mem_cons_of_mem _ (List.mem_cons_of_mem _ (List.mem_cons_of_mem _ (List.mem_cons_of_mem _ (List.mem_cons_of_mem _ (List.mem_cons_of_mem _ (List.mem_cons_of_mem _ (List.mem_cons_of_mem _ (List.mem_cons_of_mem _ (List.mem_cons_of_mem _ (List.Mem.head _)))))))))))))))) (hts (.code Lib.Math.max.name Lib.Math.max.code 2 (some .int)) (List.mem_cons_of_mem _ (List.mem_append_left _ (List.mem_append_left _ (List.mem_append_left _ (List.mem_cons_of_mem _ (List.mem_cons_of_mem _ (List.mem_cons_of_mem _ (List.mem_cons_of_mem _ (List.mem_cons_of_mem _ (List.mem_cons_of_mem _ (List.mem_cons_of_mem _ (List.mem_cons_of_mem _ (List.mem_cons_of_mem _ (List.mem_cons_of_mem _ (List.mem_cons_of_mem _ (List.Mem.head _))))))))))))))))) (Nat.le_of_ble_eq_true rfl) (Nat.le_of_ble_eq_true rfl) (Nat.le_of_ble_eq_true rfl) (Nat.le_of_ble_eq_true rfl) dX3_write_142 ?_
      refine va_put (D := D) (ci := 3) (v := .int (if kn < t_129 then t_129 else kn)) (ty := .int) (C := RX3) (T := TX3) (N := 9) hx hb hts iw_X3_write_X3 tyX3 tyX3_ok nmX3 hown hK hP hD hS 0 rfl rfl 8 (by decide) (hts (.fieldLink RX3 37 "KingTable$Log" "known" "I") (List.mem_cons_of_mem _ (List.mem_append_left _ (List.mem_append_left _ (List.mem_append_left _ (List.mem_cons_of_mem _ (List.mem_cons_of_mem _ (List.mem_cons_of_mem _ (List.mem_cons_of_mem _ (List.mem_cons_of_mem _ (List.mem_cons_of_mem _ (List.mem_cons_of_mem _ (List.Mem.head _))))))))))))) (fun _ h9 => h9) rfl (by decide +kernel) rfl rfl (Nat.le_of_ble_eq_true rfl) dX3_write_145 (fun H locs hP hD hS => ?_)
      have hP : va_P D vwCl [(lo, .inr (3, [.ref l0, .ref l1, .ref l2, .ref l3, .ref l4, .ref l5, .ref l6, .int t_129, .int (if kn < t_129 then t_129 else kn)])), (l0, .inl (cI, 512, .inl (upd m0 dn.toNatClampNeg p1))), (l1, .inl (cI, 512, .inl (upd m1 dn.toNatClampNeg r_28))), (l2, .inl (cI, 512, .inl (upd m2 dn.toNatClampNeg p2))), (l3, .inl (cI, 512, .inl (upd m3 dn.toNatClampNeg vc))), (l4, .inl (cI, 2048, .inl g4)), (l5, .inl (cI, 2048, .inl g5)), (nw, .inr (8, [.ref sf, .ref sh, .int tu])), (sf, .inl (cI, 40, .inl ff)), (ru, .inr (6, [.ref la, .ref gr, .ref rk, .ref rs, .ref rt, .int tt, .int kg, .ref rv, .int vc])), (rv, .inl (cI, 4, .inl fv))] H := hP
      have hD : va_D A [(lo, .inr (3, [.ref l0, .ref l1, .ref l2, .ref l3, .ref l4, .ref l5, .ref l6, .int t_129, .int (if kn < t_129 then t_129 else kn)])), (l0, .inl (cI, 512, .inl (upd m0 dn.toNatClampNeg p1))), (l1, .inl (cI, 512, .inl (upd m1 dn.toNatClampNeg r_28))), (l2, .inl (cI, 512, .inl (upd m2 dn.toNatClampNeg p2))), (l3, .inl (cI, 512, .inl (upd m3 dn.toNatClampNeg vc))), (l4, .inl (cI, 2048, .inl g4)), (l5, .inl (cI, 2048, .inl g5)), (nw, .inr (8, [.ref sf, .ref sh, .int tu])), (sf, .inl (cI, 40, .inl ff)), (ru, .inr (6, [.ref la, .ref gr, .ref rk, .ref rs, .ref rt, .int tt, .int kg, .ref rv, .int vc])), (rv, .inl (cI, 4, .inl fv))] := hD
      exact kt_rv (t_129, if kn < t_129 then t_129 else kn, upd m0 dn.toNatClampNeg p1, upd m1 dn.toNatClampNeg r_28, upd m2 dn.toNatClampNeg p2, upd m3 dn.toNatClampNeg vc, g4, g5) hx hb hr hlk hS dX3_write_148 hP hD (by show (0 ≤ t_129.toInt ∧ t_129.toInt ≤ 512) ∧ (0 ≤ (if kn < t_129 then t_129 else kn).toInt ∧ (if kn < t_129 then t_129 else kn).toInt ≤ 512) ∧ kt_r (upd m0 dn.toNatClampNeg p1) 512 0 39 ∧ kt_r (upd m1 dn.toNatClampNeg r_28) 512 (-1) 80 ∧ kt_r (upd m2 dn.toNatClampNeg p2) 512 (-1) 80 ∧ kt_r (upd m3 dn.toNatClampNeg vc) 512 0 4 ∧ kt_r g4 2048 0 39 ∧ kt_r g5 2048 (-1) 80; first | exact ⟨by omega, by omega, hm0, hm1, hm2, hm3, hm4, hm5⟩ | exact ⟨by omega, by split <;> omega, hm0, hm1, hm2, hm3, hm4, hm5⟩)
    · have d_66 := c_66
      simp only [kt_lt, kt_le, kt_eq, kt_c0, kt_c1, kt_c2, kt_c3, kt_c4, kt_c8, kt_c9, kt_cm1, kt_c81, kt_c40, kt_c7, kt_c5, kt_c6, kt_c512, kt_c10, kt_c10000] at d_66
      refine lv_aload_n hx hb dX3_write_69 rfl (lv_at hl 1 rfl) ?_
      refine va_get (D := D) (ci := 3) (C := RX3) (T := TX3) (N := 9) hx hb hts iw_X3_write_X3 hown hK hP 0 rfl rfl 4 (by decide) (hts (.fieldLink RX3 24 "KingTable$Log" "victims" "[I") (List.mem_cons_of_mem _ (List.mem_append_left _ (List.mem_append_left _ (List.mem_append_left _ (List.mem_cons_of_mem _ (List.mem_cons_of_mem _ (List.mem_cons_of_mem _ (List.mem_cons_of_mem _ (List.mem_cons_of_mem _ (List.Mem.head _))))))))))) (fun _ h9 => h9) rfl dX3_write_70 ?_
      refine lv_aload_n hx hb dX3_write_73 rfl (lv_at hl 1 rfl) ?_
      refine va_get (D := D) (ci := 3) (C := RX3) (T := TX3) (N := 9) hx hb hts iw_X3_write_X3 hown hK hP 0 rfl rfl 7 (by decide) (hts (.fieldLink RX3 33 "KingTable$Log" "done" "I") (List.mem_cons_of_mem _ (List.mem_append_left _ (List.mem_append_left _ (List.mem_append_left _ (List.mem_cons_of_mem _ (List.Mem.head _))))))) (fun _ h9 => h9) rfl dX3_write_74 ?_
      refine lv_iconst (v := 4) hx hb dX3_write_77 (by decide) ?_
      refine lv_imul hx hb dX3_write_78 ?_
      refine lv_topi (fun t_78 et_78 => ?_)
      obtain ⟨k_78, hk_78, hm_78, hM_78⟩ := kt_mulk (C := 4) et_78 (by decide)
      try simp only [kt_c0, kt_c1, kt_c2, kt_c3, kt_c4, kt_c8, kt_c9, kt_cm1, kt_c81, kt_c40, kt_c7, kt_c5, kt_c6, kt_c512, kt_c10, kt_c10000] at hk_78
      refine lv_iload hx hb dX3_write_79 (lv_at hl 0 rfl) ?_
      refine lv_iadd hx hb dX3_write_81 ?_
      refine lv_topi (fun t_81 et_81 => ?_)
      obtain ⟨k_81, hk_81, hm_81, hM_81⟩ := kt_addk et_81
      refine lv_aload hx hb dX3_write_82 (lv_at hl 5 rfl) ?_
      refine va_getN (D := D) (ci := 6) (C := RX6) (T := TX6) (N := 9) hx hb hts iw_X3_write_X6 hown hK hP 9 rfl rfl 7 (by decide) (va_Nw.use (w := .fieldLinkNest RX3 55 "KingTable$Rules" "victims" "[I" "KingTable") rfl (hN _ (by decide +kernel))) (fun _ h9 => h9) rfl dX3_write_84 ?_
      refine lv_iload hx hb dX3_write_87 (lv_at hl 0 rfl) ?_
      have hi_5 : vp_in (nI k) 4 := by exact kt_in (by omega) (by omega)
      refine va_iald hx hb hK hP 10 0 rfl rfl hi_5 dX3_write_89 ?_
      refine lv_topi (fun a_89 ea_89 => ?_)
      have ra_89 := hrv.get hi_5
      rw [← ea_89] at ra_89
      have hi_6 : vp_in t_81 2048 := by exact kt_in (by omega) (by omega)
      refine va_iast hx hb hK hP hD hS 5 0 rfl rfl hi_6 dX3_write_90 (fun H locs hP hD hS => ?_)
      have hm4 : kt_r (upd g4 t_81.toNatClampNeg a_89) 2048 0 39 := hm4.upd (by omega) (by omega)
      have hP : va_P D vwCl [(lo, .inr (3, [.ref l0, .ref l1, .ref l2, .ref l3, .ref l4, .ref l5, .ref l6, .int dn, .int kn])), (l0, .inl (cI, 512, .inl (upd m0 dn.toNatClampNeg p1))), (l1, .inl (cI, 512, .inl (upd m1 dn.toNatClampNeg r_28))), (l2, .inl (cI, 512, .inl (upd m2 dn.toNatClampNeg p2))), (l3, .inl (cI, 512, .inl (upd m3 dn.toNatClampNeg vc))), (l4, .inl (cI, 2048, .inl (upd g4 t_81.toNatClampNeg a_89))), (l5, .inl (cI, 2048, .inl g5)), (nw, .inr (8, [.ref sf, .ref sh, .int tu])), (sf, .inl (cI, 40, .inl ff)), (ru, .inr (6, [.ref la, .ref gr, .ref rk, .ref rs, .ref rt, .int tt, .int kg, .ref rv, .int vc])), (rv, .inl (cI, 4, .inl fv))] H := hP
      have hD : va_D A [(lo, .inr (3, [.ref l0, .ref l1, .ref l2, .ref l3, .ref l4, .ref l5, .ref l6, .int dn, .int kn])), (l0, .inl (cI, 512, .inl (upd m0 dn.toNatClampNeg p1))), (l1, .inl (cI, 512, .inl (upd m1 dn.toNatClampNeg r_28))), (l2, .inl (cI, 512, .inl (upd m2 dn.toNatClampNeg p2))), (l3, .inl (cI, 512, .inl (upd m3 dn.toNatClampNeg vc))), (l4, .inl (cI, 2048, .inl (upd g4 t_81.toNatClampNeg a_89))), (l5, .inl (cI, 2048, .inl g5)), (nw, .inr (8, [.ref sf, .ref sh, .int tu])), (sf, .inl (cI, 40, .inl ff)), (ru, .inr (6, [.ref la, .ref gr, .ref rk, .ref rs, .ref rt, .int tt, .int kg, .ref rv, .int vc])), (rv, .inl (cI, 4, .inl fv))] := hD
      refine lv_aload_n hx hb dX3_write_91 rfl (lv_at hl 1 rfl) ?_
      refine va_get (D := D) (ci := 3) (C := RX3) (T := TX3) (N := 9) hx hb hts iw_X3_write_X3 hown hK hP 0 rfl rfl 5 (by decide) (hts (.fieldLink RX3 27 "KingTable$Log" "victimFields" "[I") (List.mem_cons_of_mem _ (List.mem_append_left _ (List.mem_append_left _ (List.mem_append_left _ (List.mem_cons_of_mem _ (List.mem_cons_of_mem _ (List.mem_cons_of_mem _ (List.mem_cons_of_mem _ (List.mem_cons_of_mem _ (List.mem_cons_of_mem _ (List.Mem.head _)))))))))))) (fun _ h9 => h9) rfl dX3_write_92 ?_
      refine lv_aload_n hx hb dX3_write_95 rfl (lv_at hl 1 rfl) ?_
      refine va_get (D := D) (ci := 3) (C := RX3) (T := TX3) (N := 9) hx hb hts iw_X3_write_X3 hown hK hP 0 rfl rfl 7 (by decide) (hts (.fieldLink RX3 33 "KingTable$Log" "done" "I") (List.mem_cons_of_mem _ (List.mem_append_left _ (List.mem_append_left _ (List.mem_append_left _ (List.mem_cons_of_mem _ (List.Mem.head _))))))) (fun _ h9 => h9) rfl dX3_write_96 ?_
      refine lv_iconst (v := 4) hx hb dX3_write_99 (by decide) ?_
      refine lv_imul hx hb dX3_write_100 ?_
      refine lv_topi (fun t_100 et_100 => ?_)
      obtain ⟨k_100, hk_100, hm_100, hM_100⟩ := kt_mulk (C := 4) et_100 (by decide)
      try simp only [kt_c0, kt_c1, kt_c2, kt_c3, kt_c4, kt_c8, kt_c9, kt_cm1, kt_c81, kt_c40, kt_c7, kt_c5, kt_c6, kt_c512, kt_c10, kt_c10000] at hk_100
      refine lv_iload hx hb dX3_write_101 (lv_at hl 0 rfl) ?_
      refine lv_iadd hx hb dX3_write_103 ?_
      refine lv_topi (fun t_103 et_103 => ?_)
      obtain ⟨k_103, hk_103, hm_103, hM_103⟩ := kt_addk et_103
      refine lv_aload_n hx hb dX3_write_104 rfl (lv_at hl 2 rfl) ?_
      refine lv_aload hx hb dX3_write_105 (lv_at hl 5 rfl) ?_
      refine va_getN (D := D) (ci := 6) (C := RX6) (T := TX6) (N := 9) hx hb hts iw_X3_write_X6 hown hK hP 9 rfl rfl 7 (by decide) (va_Nw.use (w := .fieldLinkNest RX3 55 "KingTable$Rules" "victims" "[I" "KingTable") rfl (hN _ (by decide +kernel))) (fun _ h9 => h9) rfl dX3_write_107 ?_
      refine lv_iload hx hb dX3_write_110 (lv_at hl 0 rfl) ?_
      have hi_7 : vp_in (nI k) 4 := by exact kt_in (by omega) (by omega)
      refine va_iald hx hb hK hP 10 0 rfl rfl hi_7 dX3_write_112 ?_
      refine lv_topi (fun a_112 ea_112 => ?_)
      have ra_112 := hrv.get hi_7
      rw [← ea_112] at ra_112
      refine kt_pi (wc := [(nw, .inr (8, [.ref sf, .ref sh, .int tu])), (sf, .inl (cI, 40, .inl ff))]) [7, 8] hP hD hS hA rfl (by decide) (fun hPc hDc => va_runV (As := [.int a_112]) (rest := [.int t_103, .ref l5]) ⟨hx, hb, hml, hown, hts⟩ (c_X8_fieldOf l D cI cZ cB H.size nw sf sh tu ff a_112 (by first | assumption | omega | rfl | decide)) (cwV 1 hts gX3_write_X8_fieldOf rfl rfl rfl (by decide +kernel) ⟨Nat.le_of_ble_eq_true rfl, Nat.le_of_ble_eq_true rfl⟩) (kt_preV hN hK hPc hDc 0 (ci := 8) (q := (RX8, TX8, 3)) rfl rfl) rfl rfl hl.1 rfl (lv_room (Nat.le_of_ble_eq_true rfl)) dX3_write_113 ⟨Nat.le_of_ble_eq_true rfl, Nat.le_of_ble_eq_true rfl⟩) (fun r_113 _ H locs hw_113 hP hS => ?_)
      have hi_8 : vp_in t_103 2048 := by exact kt_in (by omega) (by omega)
      refine va_iast hx hb hK hP hD hS 6 0 rfl rfl hi_8 dX3_write_116 (fun H locs hP hD hS => ?_)
      have hm5 : kt_r (upd g5 t_103.toNatClampNeg r_113) 2048 (-1) 80 := hm5.upd (by omega) (by omega)
      have hP : va_P D vwCl [(lo, .inr (3, [.ref l0, .ref l1, .ref l2, .ref l3, .ref l4, .ref l5, .ref l6, .int dn, .int kn])), (l0, .inl (cI, 512, .inl (upd m0 dn.toNatClampNeg p1))), (l1, .inl (cI, 512, .inl (upd m1 dn.toNatClampNeg r_28))), (l2, .inl (cI, 512, .inl (upd m2 dn.toNatClampNeg p2))), (l3, .inl (cI, 512, .inl (upd m3 dn.toNatClampNeg vc))), (l4, .inl (cI, 2048, .inl (upd g4 t_81.toNatClampNeg a_89))), (l5, .inl (cI, 2048, .inl (upd g5 t_103.toNatClampNeg r_113))), (nw, .inr (8, [.ref sf, .ref sh, .int tu])), (sf, .inl (cI, 40, .inl ff)), (ru, .inr (6, [.ref la, .ref gr, .ref rk, .ref rs, .ref rt, .int tt, .int kg, .ref rv, .int vc])), (rv, .inl (cI, 4, .inl fv))] H := hP
      have hD : va_D A [(lo, .inr (3, [.ref l0, .ref l1, .ref l2, .ref l3, .ref l4, .ref l5, .ref l6, .int dn, .int kn])), (l0, .inl (cI, 512, .inl (upd m0 dn.toNatClampNeg p1))), (l1, .inl (cI, 512, .inl (upd m1 dn.toNatClampNeg r_28))), (l2, .inl (cI, 512, .inl (upd m2 dn.toNatClampNeg p2))), (l3, .inl (cI, 512, .inl (upd m3 dn.toNatClampNeg vc))), (l4, .inl (cI, 2048, .inl (upd g4 t_81.toNatClampNeg a_89))), (l5, .inl (cI, 2048, .inl (upd g5 t_103.toNatClampNeg r_113))), (nw, .inr (8, [.ref sf, .ref sh, .int tu])), (sf, .inl (cI, 40, .inl ff)), (ru, .inr (6, [.ref la, .ref gr, .ref rk, .ref rs, .ref rt, .int tt, .int kg, .ref rv, .int vc])), (rv, .inl (cI, 4, .inl fv))] := hD
      refine lv_iinc (v := nI (k + 1)) (lv' := [(5, .int (nI (k + 1))), (0, .ref lo), (1, .ref nw), (2, .int p1), (3, .int p2), (4, .ref ru)]) hx hb dX3_write_117 hl (k := 0) rfl (nI_1 _) (by decide) rfl (fun ls hl => ?_)
      refine lv_goto (tgt := 59) hx hb dX3_write_120 (by decide) ?_
      exact ih_59 ((k + 1), (upd g4 t_81.toNatClampNeg a_89), (upd g5 t_103.toNatClampNeg r_113)) (by show ((k + 1) ≤ 4 ∧ 4 < (k + 1) + n_59) ∧ kt_r (upd g4 t_81.toNatClampNeg a_89) 2048 0 39 ∧ kt_r (upd g5 t_103.toNatClampNeg r_113) 2048 (-1) 80; exact ⟨by omega, hm4, hm5⟩) H _ hP hD hS ls (lv_sub hl [0, 1, 2, 3, 4, 5] rfl)
  · have d_4 := c_4
    simp only [kt_lt, kt_le, kt_eq, kt_c0, kt_c1, kt_c2, kt_c3, kt_c4, kt_c8, kt_c9, kt_cm1, kt_c81, kt_c40, kt_c7, kt_c5, kt_c6, kt_c512, kt_c10, kt_c10000] at d_4
    exact kt_rv (dn, kn, m0, m1, m2, m3, m4, m5) hx hb hr hlk hS dX3_write_7 hP hD (by show (0 ≤ dn.toInt ∧ dn.toInt ≤ 512) ∧ (0 ≤ kn.toInt ∧ kn.toInt ≤ 512) ∧ kt_r m0 512 0 39 ∧ kt_r m1 512 (-1) 80 ∧ kt_r m2 512 (-1) 80 ∧ kt_r m3 512 0 4 ∧ kt_r m4 2048 0 39 ∧ kt_r m5 2048 (-1) 80; first | exact ⟨by omega, by omega, hm0, hm1, hm2, hm3, hm4, hm5⟩ | exact ⟨by omega, by split <;> omega, hm0, hm1, hm2, hm3, hm4, hm5⟩)

theorem iw_X3_unwind_X3 : ∀ w ∈ wsX30, w ∈ wsX3_unwind := fun _ h => kt_wp_X3_unwind__X30 h
theorem iw_X3_unwind_X8 : ∀ w ∈ wsX80, w ∈ wsX3_unwind := fun _ h => kt_wp_X3_unwind__X80 h
set_option maxHeartbeats 4000000 in
set_option maxRecDepth 100000 in
theorem c_X3_unwind (l : Launch) (D : va_G) (cI cZ cB : ClassId) (sz : Nat) (lo : Nat) (l0 : Nat) (l1 : Nat) (l2 : Nat) (l3 : Nat) (l4 : Nat) (l5 : Nat) (l6 : Nat) (dn : Int32) (kn : Int32) (m0 : Nat → Int32) (m1 : Nat → Int32) (m3 : Nat → Int32) (m4 : Nat → Int32) (m5 : Nat → Int32) (nw : Nat) (sf : Nat) (sh : Nat) (tu : Int32) (ff : Nat → Int32) (fh : Nat → Int32) (hdn : 0 ≤ dn.toInt ∧ dn.toInt ≤ 512) (htu : 0 ≤ tu.toInt ∧ tu.toInt ≤ 1) (hm0 : kt_r m0 512 0 39) (hm1 : kt_r m1 512 (-1) 80) (hm3 : kt_r m3 512 0 4) (hm4 : kt_r m4 2048 0 39) (hm5 : kt_r m5 2048 (-1) 80) (hff : kt_r ff 40 (-1) 80) (hfh : kt_r fh 81 (-1) 39) : kt_Mv l yX3_unwind wsX3_unwind { frames := 1, cells := 0, slots := 0, locals := 23 } D (kt_ty cI cZ cB) [.ref lo, .ref nw] sz [(lo, .inr (3, [.ref l0, .ref l1, .ref l2, .ref l3, .ref l4, .ref l5, .ref l6, .int dn, .int kn])), (l0, .inl (cI, 512, .inl m0)), (l1, .inl (cI, 512, .inl m1)), (l3, .inl (cI, 512, .inl m3)), (l4, .inl (cI, 2048, .inl m4)), (l5, .inl (cI, 2048, .inl m5)), (nw, .inr (8, [.ref sf, .ref sh, .int tu])), (sf, .inl (cI, 40, .inl ff)), (sh, .inl (cI, 81, .inl fh))] (fun (u : Int32 × Int32 × (Nat → Int32) × (Nat → Int32)) => (0 ≤ u.1.toInt ∧ u.1.toInt ≤ 512) ∧ (0 ≤ u.2.1.toInt ∧ u.2.1.toInt ≤ 1) ∧ kt_r u.2.2.1 40 (-1) 80 ∧ kt_r u.2.2.2 81 (-1) 39) (fun (u : Int32 × Int32 × (Nat → Int32) × (Nat → Int32)) => [(lo, .inr (3, [.ref l0, .ref l1, .ref l2, .ref l3, .ref l4, .ref l5, .ref l6, .int u.1, .int kn])), (l0, .inl (cI, 512, .inl m0)), (l1, .inl (cI, 512, .inl m1)), (l3, .inl (cI, 512, .inl m3)), (l4, .inl (cI, 2048, .inl m4)), (l5, .inl (cI, 2048, .inl m5)), (nw, .inr (8, [.ref sf, .ref sh, .int u.2.1])), (sf, .inl (cI, 40, .inl u.2.2.1)), (sh, .inl (cI, 81, .inl u.2.2.2))]) 0 0 := by
  refine kt_Mv.of (cc := cX3_unwind) (maxL := 3) (ret := none) (by decide) rfl (Nat.le_of_ble_eq_true rfl) ?_
  intro p e s m below meth c A ls H hAt hP hD hS hl
  obtain ⟨hx, hb, hr, hml, hown, hts, hN, hK, hlk, hnm, hA⟩ := hAt
  have hl : lv_has ls 3 [(0, .ref lo), (1, .ref nw)] := hl
  have hown : s.vm.findClass RX3 = some m.cls := hown
  refine lv_aload_n hx hb dX3_unwind_0 rfl (lv_at hl 0 rfl) ?_
  refine va_get (D := D) (ci := 3) (C := RX3) (T := TX3) (N := 9) hx hb hts iw_X3_unwind_X3 hown hK hP 0 rfl rfl 7 (by decide) (hts (.fieldLink RX3 33 "KingTable$Log" "done" "I") (List.mem_cons_of_mem _ (List.mem_append_left _ (List.mem_append_left _ (List.Mem.head _))))) (fun _ h9 => h9) rfl dX3_unwind_1 ?_
  refine lv_if_gt (tgt := 8) hx hb dX3_unwind_4 (by decide) (fun c_4 => ?_) (fun c_4 => ?_)
  · have d_4 := c_4
    simp only [kt_lt, kt_le, kt_eq, kt_c0, kt_c1, kt_c2, kt_c3, kt_c4, kt_c8, kt_c9, kt_cm1, kt_c81, kt_c40, kt_c7, kt_c5, kt_c6, kt_c512, kt_c10, kt_c10000] at d_4
    refine lv_aload_n hx hb dX3_unwind_8 rfl (lv_at hl 0 rfl) ?_
    refine lv_dup hx hb dX3_unwind_9 rfl ?_
    refine va_get (D := D) (ci := 3) (C := RX3) (T := TX3) (N := 9) hx hb hts iw_X3_unwind_X3 hown hK hP 0 rfl rfl 7 (by decide) (hts (.fieldLink RX3 33 "KingTable$Log" "done" "I") (List.mem_cons_of_mem _ (List.mem_append_left _ (List.mem_append_left _ (List.Mem.head _))))) (fun _ h9 => h9) rfl dX3_unwind_10 ?_
    refine lv_iconst (v := 1) hx hb dX3_unwind_13 (by decide) ?_
    refine lv_isub hx hb dX3_unwind_14 ?_
    refine lv_topi (fun t_14 et_14 => ?_)
    obtain ⟨k_14, hk_14, hm_14, hM_14⟩ := kt_subk et_14
    try simp only [kt_c0, kt_c1, kt_c2, kt_c3, kt_c4, kt_c8, kt_c9, kt_cm1, kt_c81, kt_c40, kt_c7, kt_c5, kt_c6, kt_c512, kt_c10, kt_c10000] at hk_14
    refine va_put (D := D) (ci := 3) (v := .int t_14) (ty := .int) (C := RX3) (T := TX3) (N := 9) hx hb hts iw_X3_unwind_X3 tyX3 tyX3_ok nmX3 hown hK hP hD hS 0 rfl rfl 7 (by decide) (hts (.fieldLink RX3 33 "KingTable$Log" "done" "I") (List.mem_cons_of_mem _ (List.mem_append_left _ (List.mem_append_left _ (List.Mem.head _))))) (fun _ h9 => h9) rfl (by decide +kernel) rfl rfl (Nat.le_of_ble_eq_true rfl) dX3_unwind_15 (fun H locs hP hD hS => ?_)
    have hP : va_P D vwCl [(lo, .inr (3, [.ref l0, .ref l1, .ref l2, .ref l3, .ref l4, .ref l5, .ref l6, .int t_14, .int kn])), (l0, .inl (cI, 512, .inl m0)), (l1, .inl (cI, 512, .inl m1)), (l3, .inl (cI, 512, .inl m3)), (l4, .inl (cI, 2048, .inl m4)), (l5, .inl (cI, 2048, .inl m5)), (nw, .inr (8, [.ref sf, .ref sh, .int tu])), (sf, .inl (cI, 40, .inl ff)), (sh, .inl (cI, 81, .inl fh))] H := hP
    have hD : va_D A [(lo, .inr (3, [.ref l0, .ref l1, .ref l2, .ref l3, .ref l4, .ref l5, .ref l6, .int t_14, .int kn])), (l0, .inl (cI, 512, .inl m0)), (l1, .inl (cI, 512, .inl m1)), (l3, .inl (cI, 512, .inl m3)), (l4, .inl (cI, 2048, .inl m4)), (l5, .inl (cI, 2048, .inl m5)), (nw, .inr (8, [.ref sf, .ref sh, .int tu])), (sf, .inl (cI, 40, .inl ff)), (sh, .inl (cI, 81, .inl fh))] := hD
    refine lv_aload_n hx hb dX3_unwind_18 rfl (lv_at hl 1 rfl) ?_
    refine lv_aload_n hx hb dX3_unwind_19 rfl (lv_at hl 0 rfl) ?_
    refine va_get (D := D) (ci := 3) (C := RX3) (T := TX3) (N := 9) hx hb hts iw_X3_unwind_X3 hown hK hP 0 rfl rfl 0 (by decide) (hts (.fieldLink RX3 9 "KingTable$Log" "movers" "[I") (List.mem_cons_of_mem _ (List.mem_append_left _ (List.mem_append_left _ (List.mem_cons_of_mem _ (List.Mem.head _)))))) (fun _ h9 => h9) rfl dX3_unwind_20 ?_
    refine lv_aload_n hx hb dX3_unwind_23 rfl (lv_at hl 0 rfl) ?_
    refine va_get (D := D) (ci := 3) (C := RX3) (T := TX3) (N := 9) hx hb hts iw_X3_unwind_X3 hown hK hP 0 rfl rfl 7 (by decide) (hts (.fieldLink RX3 33 "KingTable$Log" "done" "I") (List.mem_cons_of_mem _ (List.mem_append_left _ (List.mem_append_left _ (List.Mem.head _))))) (fun _ h9 => h9) rfl dX3_unwind_24 ?_
    have hi_1 : vp_in t_14 512 := by exact kt_in (by omega) (by omega)
    refine va_iald hx hb hK hP 1 0 rfl rfl hi_1 dX3_unwind_27 ?_
    refine lv_topi (fun a_27 ea_27 => ?_)
    have ra_27 := hm0.get hi_1
    rw [← ea_27] at ra_27
    refine lv_aload_n hx hb dX3_unwind_28 rfl (lv_at hl 0 rfl) ?_
    refine va_get (D := D) (ci := 3) (C := RX3) (T := TX3) (N := 9) hx hb hts iw_X3_unwind_X3 hown hK hP 0 rfl rfl 1 (by decide) (hts (.fieldLink RX3 15 "KingTable$Log" "froms" "[I") (List.mem_cons_of_mem _ (List.mem_append_left _ (List.mem_append_left _ (List.mem_cons_of_mem _ (List.mem_cons_of_mem _ (List.Mem.head _))))))) (fun _ h9 => h9) rfl dX3_unwind_29 ?_
    refine lv_aload_n hx hb dX3_unwind_32 rfl (lv_at hl 0 rfl) ?_
    refine va_get (D := D) (ci := 3) (C := RX3) (T := TX3) (N := 9) hx hb hts iw_X3_unwind_X3 hown hK hP 0 rfl rfl 7 (by decide) (hts (.fieldLink RX3 33 "KingTable$Log" "done" "I") (List.mem_cons_of_mem _ (List.mem_append_left _ (List.mem_append_left _ (List.Mem.head _))))) (fun _ h9 => h9) rfl dX3_unwind_33 ?_
    have hi_2 : vp_in t_14 512 := by exact kt_in (by omega) (by omega)
    refine va_iald hx hb hK hP 2 0 rfl rfl hi_2 dX3_unwind_36 ?_
    refine lv_topi (fun a_36 ea_36 => ?_)
    have ra_36 := hm1.get hi_2
    rw [← ea_36] at ra_36
    refine kt_bv (wc := [(nw, .inr (8, [.ref sf, .ref sh, .int tu])), (sf, .inl (cI, 40, .inl ff)), (sh, .inl (cI, 81, .inl fh))]) (wr := [(lo, .inr (3, [.ref l0, .ref l1, .ref l2, .ref l3, .ref l4, .ref l5, .ref l6, .int t_14, .int kn])), (l0, .inl (cI, 512, .inl m0)), (l1, .inl (cI, 512, .inl m1)), (l3, .inl (cI, 512, .inl m3)), (l4, .inl (cI, 2048, .inl m4)), (l5, .inl (cI, 2048, .inl m5))]) [6, 7, 8] [0, 1, 2, 3, 4, 5] hP hD hS hA rfl rfl (by decide) (by decide) (by decide) (fun hPc hDc => va_runV (As := [.int a_27, .int a_36]) (rest := []) ⟨hx, hb, hml, hown, hts⟩ (c_X8_place l D cI cZ cB H.size nw sf sh tu ff fh a_27 a_36 (by first | assumption | omega | rfl | decide) (by first | assumption | omega | rfl | decide) (by first | assumption | omega | rfl | decide)) (cwV 2 hts gX3_unwind_X8_place rfl rfl rfl (by decide +kernel) ⟨Nat.le_of_ble_eq_true rfl, Nat.le_of_ble_eq_true rfl⟩) (kt_preV hN hK hPc hDc 0 (ci := 8) (q := (RX8, TX8, 3)) rfl rfl) rfl rfl hl.1 rfl (lv_room (Nat.le_of_ble_eq_true rfl)) dX3_unwind_37 ⟨Nat.le_of_ble_eq_true rfl, Nat.le_of_ble_eq_true rfl⟩) (fun u_ H locs hw_37 hP hD hS => ?_)
    obtain ⟨ff2_37, fh2_37⟩ := u_
    have hP : va_P D vwCl [(lo, .inr (3, [.ref l0, .ref l1, .ref l2, .ref l3, .ref l4, .ref l5, .ref l6, .int t_14, .int kn])), (l0, .inl (cI, 512, .inl m0)), (l1, .inl (cI, 512, .inl m1)), (l3, .inl (cI, 512, .inl m3)), (l4, .inl (cI, 2048, .inl m4)), (l5, .inl (cI, 2048, .inl m5)), (nw, .inr (8, [.ref sf, .ref sh, .int tu])), (sf, .inl (cI, 40, .inl ff2_37)), (sh, .inl (cI, 81, .inl fh2_37))] H := hP.sub [0, 1, 2, 3, 4, 5, 6, 7, 8] rfl
    have hD : va_D A [(lo, .inr (3, [.ref l0, .ref l1, .ref l2, .ref l3, .ref l4, .ref l5, .ref l6, .int t_14, .int kn])), (l0, .inl (cI, 512, .inl m0)), (l1, .inl (cI, 512, .inl m1)), (l3, .inl (cI, 512, .inl m3)), (l4, .inl (cI, 2048, .inl m4)), (l5, .inl (cI, 2048, .inl m5)), (nw, .inr (8, [.ref sf, .ref sh, .int tu])), (sf, .inl (cI, 40, .inl ff2_37)), (sh, .inl (cI, 81, .inl fh2_37))] := hD.sub [0, 1, 2, 3, 4, 5, 6, 7, 8] (by decide) rfl
    try dsimp only at hw_37
    obtain ⟨hff, hfh⟩ := hw_37
    refine lv_iconst (v := 0) hx hb dX3_unwind_40 (by decide) ?_
    refine lv_istore_n (lv' := [(2, .int 0), (0, .ref lo), (1, .ref nw)]) hx hb dX3_unwind_41 rfl hl (by decide) rfl (fun ls hl => ?_)
    refine kt_loop (σ := Nat × (Nat → Int32) × (Nat → Int32)) 42 3 (fun u => [(lo, .inr (3, [.ref l0, .ref l1, .ref l2, .ref l3, .ref l4, .ref l5, .ref l6, .int t_14, .int kn])), (l0, .inl (cI, 512, .inl m0)), (l1, .inl (cI, 512, .inl m1)), (l3, .inl (cI, 512, .inl m3)), (l4, .inl (cI, 2048, .inl m4)), (l5, .inl (cI, 2048, .inl m5)), (nw, .inr (8, [.ref sf, .ref sh, .int tu])), (sf, .inl (cI, 40, .inl u.2.1)), (sh, .inl (cI, 81, .inl u.2.2))]) (fun u => [(2, .int (nI u.1)), (0, .ref lo), (1, .ref nw)]) (fun n u => (u.1 ≤ 4 ∧ 4 < u.1 + n) ∧ kt_r u.2.1 40 (-1) 80 ∧ kt_r u.2.2 81 (-1) 39) (fun u h => by omega) (fun n_42 ih_42 u hI H locs hP hD hS ls hl => ?_) (5) (0, ff2_37, fh2_37) (by show (0 ≤ 4 ∧ 4 < 0 + 5) ∧ kt_r ff2_37 40 (-1) 80 ∧ kt_r fh2_37 81 (-1) 39; exact ⟨by decide, hff, hfh⟩) hP hD hS (lv_sub hl [0, 1, 2] rfl)
    obtain ⟨k, f, h⟩ := u
    have hP : va_P D vwCl [(lo, .inr (3, [.ref l0, .ref l1, .ref l2, .ref l3, .ref l4, .ref l5, .ref l6, .int t_14, .int kn])), (l0, .inl (cI, 512, .inl m0)), (l1, .inl (cI, 512, .inl m1)), (l3, .inl (cI, 512, .inl m3)), (l4, .inl (cI, 2048, .inl m4)), (l5, .inl (cI, 2048, .inl m5)), (nw, .inr (8, [.ref sf, .ref sh, .int tu])), (sf, .inl (cI, 40, .inl f)), (sh, .inl (cI, 81, .inl h))] H := hP
    have hD : va_D A [(lo, .inr (3, [.ref l0, .ref l1, .ref l2, .ref l3, .ref l4, .ref l5, .ref l6, .int t_14, .int kn])), (l0, .inl (cI, 512, .inl m0)), (l1, .inl (cI, 512, .inl m1)), (l3, .inl (cI, 512, .inl m3)), (l4, .inl (cI, 2048, .inl m4)), (l5, .inl (cI, 2048, .inl m5)), (nw, .inr (8, [.ref sf, .ref sh, .int tu])), (sf, .inl (cI, 40, .inl f)), (sh, .inl (cI, 81, .inl h))] := hD
    have hl : lv_has ls 3 [(2, .int (nI k)), (0, .ref lo), (1, .ref nw)] := hl
    have hI : (k ≤ 4 ∧ 4 < k + (n_42 + 1)) ∧ kt_r f 40 (-1) 80 ∧ kt_r h 81 (-1) 39 := hI
    obtain ⟨hkn0, hff, hfh⟩ := hI
    have hk0 := kt_nI (n := k) (by omega)
    refine lv_iload_n hx hb dX3_unwind_42 rfl (lv_at hl 0 rfl) ?_
    refine lv_aload_n hx hb dX3_unwind_43 rfl (lv_at hl 1 rfl) ?_
    refine va_get (D := D) (ci := 3) (C := RX3) (T := TX3) (N := 9) hx hb hts iw_X3_unwind_X3 hown hK hP 0 rfl rfl 3 (by decide) (hts (.fieldLink RX3 21 "KingTable$Log" "takings" "[I") (List.mem_cons_of_mem _ (List.mem_append_left _ (List.mem_append_left _ (List.mem_cons_of_mem _ (List.mem_cons_of_mem _ (List.mem_cons_of_mem _ (List.Mem.head _)))))))) (fun _ h9 => h9) rfl dX3_unwind_44 ?_
    refine lv_aload_n hx hb dX3_unwind_47 rfl (lv_at hl 1 rfl) ?_
    refine va_get (D := D) (ci := 3) (C := RX3) (T := TX3) (N := 9) hx hb hts iw_X3_unwind_X3 hown hK hP 0 rfl rfl 7 (by decide) (hts (.fieldLink RX3 33 "KingTable$Log" "done" "I") (List.mem_cons_of_mem _ (List.mem_append_left _ (List.mem_append_left _ (List.Mem.head _))))) (fun _ h9 => h9) rfl dX3_unwind_48 ?_
    have hi_3 : vp_in t_14 512 := by exact kt_in (by omega) (by omega)
    refine va_iald hx hb hK hP 3 0 rfl rfl hi_3 dX3_unwind_51 ?_
    refine lv_topi (fun a_51 ea_51 => ?_)
    have ra_51 := hm3.get hi_3
    rw [← ea_51] at ra_51
    refine lv_icmp_ge (tgt := 91) hx hb dX3_unwind_52 (by decide) (fun c_52 => ?_) (fun c_52 => ?_)
    · have d_52 := c_52
      simp only [kt_lt, kt_le, kt_eq, kt_c0, kt_c1, kt_c2, kt_c3, kt_c4, kt_c8, kt_c9, kt_cm1, kt_c81, kt_c40, kt_c7, kt_c5, kt_c6, kt_c512, kt_c10, kt_c10000] at d_52
      refine lv_aload_n hx hb dX3_unwind_91 rfl (lv_at hl 2 rfl) ?_
      refine lv_iconst (v := 1) hx hb dX3_unwind_92 (by decide) ?_
      refine lv_aload_n hx hb dX3_unwind_93 rfl (lv_at hl 2 rfl) ?_
      refine va_getN (D := D) (ci := 8) (C := RX8) (T := TX8) (N := 3) hx hb hts iw_X3_unwind_X8 hown hK hP 6 rfl rfl 2 (by decide) (va_Nw.use (w := .fieldLinkNest RX3 66 "KingTable$Stand" "turn" "I" "KingTable") rfl (hN _ (by decide +kernel))) (fun _ h9 => h9) rfl dX3_unwind_94 ?_
      refine lv_isub hx hb dX3_unwind_97 ?_
      refine lv_topi (fun t_97 et_97 => ?_)
      obtain ⟨k_97, hk_97, hm_97, hM_97⟩ := kt_subk et_97
      try simp only [kt_c0, kt_c1, kt_c2, kt_c3, kt_c4, kt_c8, kt_c9, kt_cm1, kt_c81, kt_c40, kt_c7, kt_c5, kt_c6, kt_c512, kt_c10, kt_c10000] at hk_97
      refine va_putN (D := D) (ci := 8) (v := .int t_97) (ty := .int) (C := RX8) (T := TX8) (N := 3) hx hb hts iw_X3_unwind_X8 tyX8 tyX8_ok nmX8 hown hK hP hD hS 6 rfl rfl 2 (by decide) (va_Nw.use (w := .fieldLinkNest RX3 66 "KingTable$Stand" "turn" "I" "KingTable") rfl (hN _ (by decide +kernel))) (fun _ h9 => h9) rfl (by decide +kernel) rfl rfl (Nat.le_of_ble_eq_true rfl) dX3_unwind_98 (fun H locs hP hD hS => ?_)
      have hP : va_P D vwCl [(lo, .inr (3, [.ref l0, .ref l1, .ref l2, .ref l3, .ref l4, .ref l5, .ref l6, .int t_14, .int kn])), (l0, .inl (cI, 512, .inl m0)), (l1, .inl (cI, 512, .inl m1)), (l3, .inl (cI, 512, .inl m3)), (l4, .inl (cI, 2048, .inl m4)), (l5, .inl (cI, 2048, .inl m5)), (nw, .inr (8, [.ref sf, .ref sh, .int t_97])), (sf, .inl (cI, 40, .inl f)), (sh, .inl (cI, 81, .inl h))] H := hP
      have hD : va_D A [(lo, .inr (3, [.ref l0, .ref l1, .ref l2, .ref l3, .ref l4, .ref l5, .ref l6, .int t_14, .int kn])), (l0, .inl (cI, 512, .inl m0)), (l1, .inl (cI, 512, .inl m1)), (l3, .inl (cI, 512, .inl m3)), (l4, .inl (cI, 2048, .inl m4)), (l5, .inl (cI, 2048, .inl m5)), (nw, .inr (8, [.ref sf, .ref sh, .int t_97])), (sf, .inl (cI, 40, .inl f)), (sh, .inl (cI, 81, .inl h))] := hD
      exact kt_rv (t_14, t_97, f, h) hx hb hr hlk hS dX3_unwind_101 hP hD (by show (0 ≤ t_14.toInt ∧ t_14.toInt ≤ 512) ∧ (0 ≤ t_97.toInt ∧ t_97.toInt ≤ 1) ∧ kt_r f 40 (-1) 80 ∧ kt_r h 81 (-1) 39; exact ⟨by omega, by omega, hff, hfh⟩)
    · have d_52 := c_52
      simp only [kt_lt, kt_le, kt_eq, kt_c0, kt_c1, kt_c2, kt_c3, kt_c4, kt_c8, kt_c9, kt_cm1, kt_c81, kt_c40, kt_c7, kt_c5, kt_c6, kt_c512, kt_c10, kt_c10000] at d_52
      refine lv_aload_n hx hb dX3_unwind_55 rfl (lv_at hl 2 rfl) ?_
      refine lv_aload_n hx hb dX3_unwind_56 rfl (lv_at hl 1 rfl) ?_
      refine va_get (D := D) (ci := 3) (C := RX3) (T := TX3) (N := 9) hx hb hts iw_X3_unwind_X3 hown hK hP 0 rfl rfl 4 (by decide) (hts (.fieldLink RX3 24 "KingTable$Log" "victims" "[I") (List.mem_cons_of_mem _ (List.mem_append_left _ (List.mem_append_left _ (List.mem_cons_of_mem _ (List.mem_cons_of_mem _ (List.mem_cons_of_mem _ (List.mem_cons_of_mem _ (List.Mem.head _))))))))) (fun _ h9 => h9) rfl dX3_unwind_57 ?_
      refine lv_aload_n hx hb dX3_unwind_60 rfl (lv_at hl 1 rfl) ?_
      refine va_get (D := D) (ci := 3) (C := RX3) (T := TX3) (N := 9) hx hb hts iw_X3_unwind_X3 hown hK hP 0 rfl rfl 7 (by decide) (hts (.fieldLink RX3 33 "KingTable$Log" "done" "I") (List.mem_cons_of_mem _ (List.mem_append_left _ (List.mem_append_left _ (List.Mem.head _))))) (fun _ h9 => h9) rfl dX3_unwind_61 ?_
      refine lv_iconst (v := 4) hx hb dX3_unwind_64 (by decide) ?_
      refine lv_imul hx hb dX3_unwind_65 ?_
      refine lv_topi (fun t_65 et_65 => ?_)
      obtain ⟨k_65, hk_65, hm_65, hM_65⟩ := kt_mulk (C := 4) et_65 (by decide)
      try simp only [kt_c0, kt_c1, kt_c2, kt_c3, kt_c4, kt_c8, kt_c9, kt_cm1, kt_c81, kt_c40, kt_c7, kt_c5, kt_c6, kt_c512, kt_c10, kt_c10000] at hk_65
      refine lv_iload_n hx hb dX3_unwind_66 rfl (lv_at hl 0 rfl) ?_
      refine lv_iadd hx hb dX3_unwind_67 ?_
      refine lv_topi (fun t_67 et_67 => ?_)
      obtain ⟨k_67, hk_67, hm_67, hM_67⟩ := kt_addk et_67
      have hi_4 : vp_in t_67 2048 := by exact kt_in (by omega) (by omega)
      refine va_iald hx hb hK hP 4 0 rfl rfl hi_4 dX3_unwind_68 ?_
      refine lv_topi (fun a_68 ea_68 => ?_)
      have ra_68 := hm4.get hi_4
      rw [← ea_68] at ra_68
      refine lv_aload_n hx hb dX3_unwind_69 rfl (lv_at hl 1 rfl) ?_
      refine va_get (D := D) (ci := 3) (C := RX3) (T := TX3) (N := 9) hx hb hts iw_X3_unwind_X3 hown hK hP 0 rfl rfl 5 (by decide) (hts (.fieldLink RX3 27 "KingTable$Log" "victimFields" "[I") (List.mem_cons_of_mem _ (List.mem_append_left _ (List.mem_append_left _ (List.mem_cons_of_mem _ (List.mem_cons_of_mem _ (List.mem_cons_of_mem _ (List.mem_cons_of_mem _ (List.mem_cons_of_mem _ (List.Mem.head _)))))))))) (fun _ h9 => h9) rfl dX3_unwind_70 ?_
      refine lv_aload_n hx hb dX3_unwind_73 rfl (lv_at hl 1 rfl) ?_
      refine va_get (D := D) (ci := 3) (C := RX3) (T := TX3) (N := 9) hx hb hts iw_X3_unwind_X3 hown hK hP 0 rfl rfl 7 (by decide) (hts (.fieldLink RX3 33 "KingTable$Log" "done" "I") (List.mem_cons_of_mem _ (List.mem_append_left _ (List.mem_append_left _ (List.Mem.head _))))) (fun _ h9 => h9) rfl dX3_unwind_74 ?_
      refine lv_iconst (v := 4) hx hb dX3_unwind_77 (by decide) ?_
      refine lv_imul hx hb dX3_unwind_78 ?_
      refine lv_topi (fun t_78 et_78 => ?_)
      obtain ⟨k_78, hk_78, hm_78, hM_78⟩ := kt_mulk (C := 4) et_78 (by decide)
      try simp only [kt_c0, kt_c1, kt_c2, kt_c3, kt_c4, kt_c8, kt_c9, kt_cm1, kt_c81, kt_c40, kt_c7, kt_c5, kt_c6, kt_c512, kt_c10, kt_c10000] at hk_78
      refine lv_iload_n hx hb dX3_unwind_79 rfl (lv_at hl 0 rfl) ?_
      refine lv_iadd hx hb dX3_unwind_80 ?_
      refine lv_topi (fun t_80 et_80 => ?_)
      obtain ⟨k_80, hk_80, hm_80, hM_80⟩ := kt_addk et_80
      have hi_5 : vp_in t_80 2048 := by exact kt_in (by omega) (by omega)
      refine va_iald hx hb hK hP 5 0 rfl rfl hi_5 dX3_unwind_81 ?_
      refine lv_topi (fun a_81 ea_81 => ?_)
      have ra_81 := hm5.get hi_5
      rw [← ea_81] at ra_81
      refine kt_bv (wc := [(nw, .inr (8, [.ref sf, .ref sh, .int tu])), (sf, .inl (cI, 40, .inl f)), (sh, .inl (cI, 81, .inl h))]) (wr := [(lo, .inr (3, [.ref l0, .ref l1, .ref l2, .ref l3, .ref l4, .ref l5, .ref l6, .int t_14, .int kn])), (l0, .inl (cI, 512, .inl m0)), (l1, .inl (cI, 512, .inl m1)), (l3, .inl (cI, 512, .inl m3)), (l4, .inl (cI, 2048, .inl m4)), (l5, .inl (cI, 2048, .inl m5))]) [6, 7, 8] [0, 1, 2, 3, 4, 5] hP hD hS hA rfl rfl (by decide) (by decide) (by decide) (fun hPc hDc => va_runV (As := [.int a_68, .int a_81]) (rest := []) ⟨hx, hb, hml, hown, hts⟩ (c_X8_place l D cI cZ cB H.size nw sf sh tu f h a_68 a_81 (by first | assumption | omega | rfl | decide) (by first | assumption | omega | rfl | decide) (by first | assumption | omega | rfl | decide)) (cwV 2 hts gX3_unwind_X8_place rfl rfl rfl (by decide +kernel) ⟨Nat.le_of_ble_eq_true rfl, Nat.le_of_ble_eq_true rfl⟩) (kt_preV hN hK hPc hDc 0 (ci := 8) (q := (RX8, TX8, 3)) rfl rfl) rfl rfl hl.1 rfl (lv_room (Nat.le_of_ble_eq_true rfl)) dX3_unwind_82 ⟨Nat.le_of_ble_eq_true rfl, Nat.le_of_ble_eq_true rfl⟩) (fun u_ H locs hw_82 hP hD hS => ?_)
      obtain ⟨ff2_82, fh2_82⟩ := u_
      have hP : va_P D vwCl [(lo, .inr (3, [.ref l0, .ref l1, .ref l2, .ref l3, .ref l4, .ref l5, .ref l6, .int t_14, .int kn])), (l0, .inl (cI, 512, .inl m0)), (l1, .inl (cI, 512, .inl m1)), (l3, .inl (cI, 512, .inl m3)), (l4, .inl (cI, 2048, .inl m4)), (l5, .inl (cI, 2048, .inl m5)), (nw, .inr (8, [.ref sf, .ref sh, .int tu])), (sf, .inl (cI, 40, .inl ff2_82)), (sh, .inl (cI, 81, .inl fh2_82))] H := hP.sub [0, 1, 2, 3, 4, 5, 6, 7, 8] rfl
      have hD : va_D A [(lo, .inr (3, [.ref l0, .ref l1, .ref l2, .ref l3, .ref l4, .ref l5, .ref l6, .int t_14, .int kn])), (l0, .inl (cI, 512, .inl m0)), (l1, .inl (cI, 512, .inl m1)), (l3, .inl (cI, 512, .inl m3)), (l4, .inl (cI, 2048, .inl m4)), (l5, .inl (cI, 2048, .inl m5)), (nw, .inr (8, [.ref sf, .ref sh, .int tu])), (sf, .inl (cI, 40, .inl ff2_82)), (sh, .inl (cI, 81, .inl fh2_82))] := hD.sub [0, 1, 2, 3, 4, 5, 6, 7, 8] (by decide) rfl
      try dsimp only at hw_82
      obtain ⟨hff, hfh⟩ := hw_82
      refine lv_iinc (v := nI (k + 1)) (lv' := [(2, .int (nI (k + 1))), (0, .ref lo), (1, .ref nw)]) hx hb dX3_unwind_85 hl (k := 0) rfl (nI_1 _) (by decide) rfl (fun ls hl => ?_)
      refine lv_goto (tgt := 42) hx hb dX3_unwind_88 (by decide) ?_
      exact ih_42 ((k + 1), ff2_82, fh2_82) (by show ((k + 1) ≤ 4 ∧ 4 < (k + 1) + n_42) ∧ kt_r ff2_82 40 (-1) 80 ∧ kt_r fh2_82 81 (-1) 39; exact ⟨by omega, hff, hfh⟩) H _ hP hD hS ls (lv_sub hl [0, 1, 2] rfl)
  · have d_4 := c_4
    simp only [kt_lt, kt_le, kt_eq, kt_c0, kt_c1, kt_c2, kt_c3, kt_c4, kt_c8, kt_c9, kt_cm1, kt_c81, kt_c40, kt_c7, kt_c5, kt_c6, kt_c512, kt_c10, kt_c10000] at d_4
    exact kt_rv (dn, tu, ff, fh) hx hb hr hlk hS dX3_unwind_7 hP hD (by show (0 ≤ dn.toInt ∧ dn.toInt ≤ 512) ∧ (0 ≤ tu.toInt ∧ tu.toInt ≤ 1) ∧ kt_r ff 40 (-1) 80 ∧ kt_r fh 81 (-1) 39; exact ⟨by omega, by omega, hff, hfh⟩)

theorem iw_X3_hasSeen_X8 : ∀ w ∈ wsX80, w ∈ wsX3_hasSeen := fun _ h => kt_wp_X3_hasSeen__X80 h
theorem iw_X3_hasSeen_X3 : ∀ w ∈ wsX30, w ∈ wsX3_hasSeen := fun _ h => kt_wp_X3_hasSeen__X30 h
set_option maxHeartbeats 4000000 in
set_option maxRecDepth 100000 in
theorem c_X3_hasSeen (l : Launch) (D : va_G) (cI cZ cB : ClassId) (sz : Nat) (lo : Nat) (l0 : Nat) (l1 : Nat) (l2 : Nat) (l3 : Nat) (l4 : Nat) (l5 : Nat) (l6 : Nat) (dn : Int32) (kn : Int32) (m0 : Nat → Int32) (m1 : Nat → Int32) (m3 : Nat → Int32) (m6 : Nat → Int32) (nw : Nat) (sf : Nat) (sh : Nat) (tu : Int32) (ff : Nat → Int32) (p1 : Int32) (p2 : Int32) (hdn : 0 ≤ dn.toInt ∧ dn.toInt ≤ 512) (hm0 : kt_r m0 512 0 39) (hm1 : kt_r m1 512 (-1) 80) (hm3 : kt_r m3 512 0 4) (hm6 : kt_r m6 40 (-1) 80) (hff : kt_r ff 40 (-1) 80) : kt_Mi l yX3_hasSeen wsX3_hasSeen { frames := 1, cells := 0, slots := 0, locals := 60 } D (kt_ty cI cZ cB) [.ref lo, .ref nw, .int p1, .int p2] sz [(lo, .inr (3, [.ref l0, .ref l1, .ref l2, .ref l3, .ref l4, .ref l5, .ref l6, .int dn, .int kn])), (l0, .inl (cI, 512, .inl m0)), (l1, .inl (cI, 512, .inl m1)), (l3, .inl (cI, 512, .inl m3)), (l6, .inl (cI, 40, .inl m6)), (nw, .inr (8, [.ref sf, .ref sh, .int tu])), (sf, .inl (cI, 40, .inl ff))] (fun (r : Int32) (u : (Nat → Int32)) => (0 ≤ r.toInt ∧ r.toInt ≤ 1) ∧ kt_r u 40 (-1) 80) (fun (u : (Nat → Int32)) => [(lo, .inr (3, [.ref l0, .ref l1, .ref l2, .ref l3, .ref l4, .ref l5, .ref l6, .int dn, .int kn])), (l0, .inl (cI, 512, .inl m0)), (l1, .inl (cI, 512, .inl m1)), (l3, .inl (cI, 512, .inl m3)), (l6, .inl (cI, 40, .inl u)), (nw, .inr (8, [.ref sf, .ref sh, .int tu])), (sf, .inl (cI, 40, .inl ff))]) 0 0 := by
  refine kt_Mi.of (cc := cX3_hasSeen) (maxL := 9) (ret := some .boolean) (by decide) rfl (Nat.le_of_ble_eq_true rfl) ?_
  intro p e s m below meth c A ls H hAt hP hD hS hl
  obtain ⟨hx, hb, hr, hml, hown, hts, hN, hK, hlk, hnm, hA⟩ := hAt
  have hl : lv_has ls 9 [(0, .ref lo), (1, .ref nw), (2, .int p1), (3, .int p2)] := hl
  have hown : s.vm.findClass RX3 = some m.cls := hown
  refine lv_aload_n hx hb dX3_hasSeen_0 rfl (lv_at hl 1 rfl) ?_
  refine va_getN (D := D) (ci := 8) (C := RX8) (T := TX8) (N := 3) hx hb hts iw_X3_hasSeen_X8 hown hK hP 5 rfl rfl 0 (by decide) (va_Nw.use (w := .fieldLinkNest RX3 69 "KingTable$Stand" "fields" "[I" "KingTable") rfl (hN _ (by decide +kernel))) (fun _ h9 => h9) rfl dX3_hasSeen_1 ?_
  refine lv_iconst (v := 0) hx hb dX3_hasSeen_4 (by decide) ?_
  refine lv_aload_n hx hb dX3_hasSeen_5 rfl (lv_at hl 0 rfl) ?_
  refine va_get (D := D) (ci := 3) (C := RX3) (T := TX3) (N := 9) hx hb hts iw_X3_hasSeen_X3 hown hK hP 0 rfl rfl 6 (by decide) (hts (.fieldLink RX3 30 "KingTable$Log" "then" "[I") (List.mem_cons_of_mem _ (List.mem_append_left _ (List.mem_append_left _ (List.Mem.head _))))) (fun _ h9 => h9) rfl dX3_hasSeen_6 ?_
  refine lv_iconst (v := 0) hx hb dX3_hasSeen_9 (by decide) ?_
  refine lv_bipush (v := 40) hx hb dX3_hasSeen_10 (by decide) ?_
  refine va_copyi hx hb (by rw [hml]; exact hl.1.symm) hown (hts (.methodLink RX3 72 arraycopyName) (List.mem_cons_of_mem _ (List.mem_append_left _ (List.mem_append_left _ (List.mem_cons_of_mem _ (List.Mem.head _)))))) (hts (.native arraycopyName) (List.mem_cons_of_mem _ (List.mem_append_left _ (List.mem_append_left _ (List.mem_cons_of_mem _ (List.mem_cons_of_mem _ (List.Mem.head _))))))) (hts (.static arraycopyName) (List.mem_cons_of_mem _ (List.mem_append_left _ (List.mem_append_left _ (List.mem_cons_of_mem _ (List.mem_cons_of_mem _ (List.mem_cons_of_mem _ (List.Mem.head _)))))))) (hts (.initialized "java/lang/System") (List.mem_cons_of_mem _ (List.mem_append_left _ (List.mem_append_left _ (List.mem_cons_of_mem _ (List.mem_cons_of_mem _ (List.mem_cons_of_mem _ (List.mem_cons_of_mem _ (List.Mem.head _))))))))) hK hP hD hS 6 4 0 0 rfl rfl rfl rfl rfl (by decide) (by decide) (by decide) (by decide) (by decide) (fun _ _ => rfl) (Nat.le_of_ble_eq_true rfl) (Nat.le_of_ble_eq_true rfl) dX3_hasSeen_12 (fun H locs hP hD hS => ?_)
  have hP : va_P D vwCl [(lo, .inr (3, [.ref l0, .ref l1, .ref l2, .ref l3, .ref l4, .ref l5, .ref l6, .int dn, .int kn])), (l0, .inl (cI, 512, .inl m0)), (l1, .inl (cI, 512, .inl m1)), (l3, .inl (cI, 512, .inl m3)), (l6, .inl (cI, 40, .inl (va_cpy ff m6 (0 : Int32).toNatClampNeg (0 : Int32).toNatClampNeg (40 : Int32).toNatClampNeg))), (nw, .inr (8, [.ref sf, .ref sh, .int tu])), (sf, .inl (cI, 40, .inl ff))] H := hP
  have hD : va_D A [(lo, .inr (3, [.ref l0, .ref l1, .ref l2, .ref l3, .ref l4, .ref l5, .ref l6, .int dn, .int kn])), (l0, .inl (cI, 512, .inl m0)), (l1, .inl (cI, 512, .inl m1)), (l3, .inl (cI, 512, .inl m3)), (l6, .inl (cI, 40, .inl (va_cpy ff m6 (0 : Int32).toNatClampNeg (0 : Int32).toNatClampNeg (40 : Int32).toNatClampNeg))), (nw, .inr (8, [.ref sf, .ref sh, .int tu])), (sf, .inl (cI, 40, .inl ff))] := hD
  have hm6 := hff.cpy (g := m6)
  refine lv_iconst (v := 1) hx hb dX3_hasSeen_15 (by decide) ?_
  refine lv_istore (lv' := [(4, .int 1), (0, .ref lo), (1, .ref nw), (2, .int p1), (3, .int p2)]) hx hb dX3_hasSeen_16 hl (by decide) rfl (fun ls hl => ?_)
  refine lv_aload_n hx hb dX3_hasSeen_18 rfl (lv_at hl 1 rfl) ?_
  refine va_get (D := D) (ci := 3) (C := RX3) (T := TX3) (N := 9) hx hb hts iw_X3_hasSeen_X3 hown hK hP 0 rfl rfl 7 (by decide) (hts (.fieldLink RX3 33 "KingTable$Log" "done" "I") (List.mem_cons_of_mem _ (List.mem_append_left _ (List.mem_append_left _ (List.mem_cons_of_mem _ (List.mem_cons_of_mem _ (List.mem_cons_of_mem _ (List.mem_cons_of_mem _ (List.mem_cons_of_mem _ (List.Mem.head _)))))))))) (fun _ h9 => h9) rfl dX3_hasSeen_19 ?_
  refine lv_iconst (v := 1) hx hb dX3_hasSeen_22 (by decide) ?_
  refine lv_isub hx hb dX3_hasSeen_23 ?_
  refine lv_topi (fun t_23 et_23 => ?_)
  obtain ⟨k_23, hk_23, hm_23, hM_23⟩ := kt_subk et_23
  try simp only [kt_c0, kt_c1, kt_c2, kt_c3, kt_c4, kt_c8, kt_c9, kt_cm1, kt_c81, kt_c40, kt_c7, kt_c5, kt_c6, kt_c512, kt_c10, kt_c10000] at hk_23
  refine lv_istore (lv' := [(5, .int t_23), (4, .int 1), (0, .ref lo), (1, .ref nw), (2, .int p1), (3, .int p2)]) hx hb dX3_hasSeen_24 hl (by decide) rfl (fun ls hl => ?_)
  refine kt_loop (σ := Int32 × Int32 × (Nat → Int32)) 26 9 (fun u => [(lo, .inr (3, [.ref l0, .ref l1, .ref l2, .ref l3, .ref l4, .ref l5, .ref l6, .int dn, .int kn])), (l0, .inl (cI, 512, .inl m0)), (l1, .inl (cI, 512, .inl m1)), (l3, .inl (cI, 512, .inl m3)), (l6, .inl (cI, 40, .inl u.2.2)), (nw, .inr (8, [.ref sf, .ref sh, .int tu])), (sf, .inl (cI, 40, .inl ff))]) (fun u => [(5, .int u.1), (4, .int u.2.1), (0, .ref lo), (1, .ref nw), (2, .int p1), (3, .int p2)]) (fun n u => (-1 ≤ u.1.toInt ∧ u.1.toInt ≤ 511 ∧ u.1.toInt + 1 < n) ∧ kt_r u.2.2 40 (-1) 80) (fun u h => by omega) (fun n_26 ih_26 u hI H locs hP hD hS ls hl => ?_) (514) (t_23, (1 : Int32), (va_cpy ff m6 (0 : Int32).toNatClampNeg (0 : Int32).toNatClampNeg (40 : Int32).toNatClampNeg)) (by show (-1 ≤ t_23.toInt ∧ t_23.toInt ≤ 511 ∧ t_23.toInt + 1 < 514) ∧ kt_r (va_cpy ff m6 (0 : Int32).toNatClampNeg (0 : Int32).toNatClampNeg (40 : Int32).toNatClampNeg) 40 (-1) 80; exact ⟨by omega, hm6⟩) hP hD hS (lv_sub hl [0, 1, 2, 3, 4, 5] rfl)
  obtain ⟨i, d, g⟩ := u
  have hP : va_P D vwCl [(lo, .inr (3, [.ref l0, .ref l1, .ref l2, .ref l3, .ref l4, .ref l5, .ref l6, .int dn, .int kn])), (l0, .inl (cI, 512, .inl m0)), (l1, .inl (cI, 512, .inl m1)), (l3, .inl (cI, 512, .inl m3)), (l6, .inl (cI, 40, .inl g)), (nw, .inr (8, [.ref sf, .ref sh, .int tu])), (sf, .inl (cI, 40, .inl ff))] H := hP
  have hD : va_D A [(lo, .inr (3, [.ref l0, .ref l1, .ref l2, .ref l3, .ref l4, .ref l5, .ref l6, .int dn, .int kn])), (l0, .inl (cI, 512, .inl m0)), (l1, .inl (cI, 512, .inl m1)), (l3, .inl (cI, 512, .inl m3)), (l6, .inl (cI, 40, .inl g)), (nw, .inr (8, [.ref sf, .ref sh, .int tu])), (sf, .inl (cI, 40, .inl ff))] := hD
  have hl : lv_has ls 9 [(5, .int i), (4, .int d), (0, .ref lo), (1, .ref nw), (2, .int p1), (3, .int p2)] := hl
  have hI : (-1 ≤ i.toInt ∧ i.toInt ≤ 511 ∧ i.toInt + 1 < (n_26 + 1)) ∧ kt_r g 40 (-1) 80 := hI
  obtain ⟨hi0, hm6⟩ := hI
  refine lv_iload hx hb dX3_hasSeen_26 (lv_at hl 0 rfl) ?_
  refine lv_if_lt (tgt := 164) hx hb dX3_hasSeen_28 (by decide) (fun c_28 => ?_) (fun c_28 => ?_)
  · have d_28 := c_28
    simp only [kt_lt, kt_le, kt_eq, kt_c0, kt_c1, kt_c2, kt_c3, kt_c4, kt_c8, kt_c9, kt_cm1, kt_c81, kt_c40, kt_c7, kt_c5, kt_c6, kt_c512, kt_c10, kt_c10000] at d_28
    refine lv_iconst (v := 0) hx hb dX3_hasSeen_164 (by decide) ?_
    exact kt_rz g hx hb hr hlk hS dX3_hasSeen_165 hP hD (by show (0 ≤ (0 : Int32).toInt ∧ (0 : Int32).toInt ≤ 1) ∧ kt_r g 40 (-1) 80; exact ⟨by decide, hm6⟩) rfl
  · have d_28 := c_28
    simp only [kt_lt, kt_le, kt_eq, kt_c0, kt_c1, kt_c2, kt_c3, kt_c4, kt_c8, kt_c9, kt_cm1, kt_c81, kt_c40, kt_c7, kt_c5, kt_c6, kt_c512, kt_c10, kt_c10000] at d_28
    refine lv_aload_n hx hb dX3_hasSeen_31 rfl (lv_at hl 2 rfl) ?_
    refine va_get (D := D) (ci := 3) (C := RX3) (T := TX3) (N := 9) hx hb hts iw_X3_hasSeen_X3 hown hK hP 0 rfl rfl 3 (by decide) (hts (.fieldLink RX3 21 "KingTable$Log" "takings" "[I") (List.mem_cons_of_mem _ (List.mem_append_left _ (List.mem_append_left _ (List.mem_cons_of_mem _ (List.mem_cons_of_mem _ (List.mem_cons_of_mem _ (List.mem_cons_of_mem _ (List.mem_cons_of_mem _ (List.mem_cons_of_mem _ (List.Mem.head _))))))))))) (fun _ h9 => h9) rfl dX3_hasSeen_32 ?_
    refine lv_iload hx hb dX3_hasSeen_35 (lv_at hl 0 rfl) ?_
    have hi_1 : vp_in i 512 := by exact kt_in (by omega) (by omega)
    refine va_iald hx hb hK hP 3 0 rfl rfl hi_1 dX3_hasSeen_37 ?_
    refine lv_topi (fun a_37 ea_37 => ?_)
    have ra_37 := hm3.get hi_1
    rw [← ea_37] at ra_37
    refine lv_if_ne (tgt := 164) hx hb dX3_hasSeen_38 (by decide) (fun c_38 => ?_) (fun c_38 => ?_)
    · have d_38 := c_38
      simp only [kt_lt, kt_le, kt_eq, kt_c0, kt_c1, kt_c2, kt_c3, kt_c4, kt_c8, kt_c9, kt_cm1, kt_c81, kt_c40, kt_c7, kt_c5, kt_c6, kt_c512, kt_c10, kt_c10000] at d_38
      refine lv_iconst (v := 0) hx hb dX3_hasSeen_164 (by decide) ?_
      exact kt_rz g hx hb hr hlk hS dX3_hasSeen_165 hP hD (by show (0 ≤ (0 : Int32).toInt ∧ (0 : Int32).toInt ≤ 1) ∧ kt_r g 40 (-1) 80; exact ⟨by decide, hm6⟩) rfl
    · have d_38 := c_38
      simp only [kt_lt, kt_le, kt_eq, kt_c0, kt_c1, kt_c2, kt_c3, kt_c4, kt_c8, kt_c9, kt_cm1, kt_c81, kt_c40, kt_c7, kt_c5, kt_c6, kt_c512, kt_c10, kt_c10000] at d_38
      refine lv_aload_n hx hb dX3_hasSeen_41 rfl (lv_at hl 2 rfl) ?_
      refine va_get (D := D) (ci := 3) (C := RX3) (T := TX3) (N := 9) hx hb hts iw_X3_hasSeen_X3 hown hK hP 0 rfl rfl 0 (by decide) (hts (.fieldLink RX3 9 "KingTable$Log" "movers" "[I") (List.mem_cons_of_mem _ (List.mem_append_left _ (List.mem_append_left _ (List.mem_cons_of_mem _ (List.mem_cons_of_mem _ (List.mem_cons_of_mem _ (List.mem_cons_of_mem _ (List.mem_cons_of_mem _ (List.mem_cons_of_mem _ (List.mem_cons_of_mem _ (List.Mem.head _)))))))))))) (fun _ h9 => h9) rfl dX3_hasSeen_42 ?_
      refine lv_iload hx hb dX3_hasSeen_45 (lv_at hl 0 rfl) ?_
      have hi_2 : vp_in i 512 := by exact kt_in (by omega) (by omega)
      refine va_iald hx hb hK hP 1 0 rfl rfl hi_2 dX3_hasSeen_47 ?_
      refine lv_topi (fun a_47 ea_47 => ?_)
      have ra_47 := hm0.get hi_2
      rw [← ea_47] at ra_47
      refine lv_istore (lv' := [(6, .int a_47), (5, .int i), (4, .int d), (0, .ref lo), (1, .ref nw), (2, .int p1), (3, .int p2)]) hx hb dX3_hasSeen_48 hl (by decide) rfl (fun ls hl => ?_)
      refine lv_iload hx hb dX3_hasSeen_50 (lv_at hl 0 rfl) ?_
      refine lv_iload_n hx hb dX3_hasSeen_52 rfl (lv_at hl 5 rfl) ?_
      refine kt_join (σ := Int32) 66 9 (fun u => [(lo, .inr (3, [.ref l0, .ref l1, .ref l2, .ref l3, .ref l4, .ref l5, .ref l6, .int dn, .int kn])), (l0, .inl (cI, 512, .inl m0)), (l1, .inl (cI, 512, .inl m1)), (l3, .inl (cI, 512, .inl m3)), (l6, .inl (cI, 40, .inl g)), (nw, .inr (8, [.ref sf, .ref sh, .int tu])), (sf, .inl (cI, 40, .inl ff))]) (fun u => [(6, .int a_47), (5, .int i), (4, .int d), (0, .ref lo), (1, .ref nw), (2, .int p1), (3, .int p2)]) (fun u => [.int u]) (fun u => True) (D := D) (A := A) (H0 := s.heap) (fun u hI H locs hP hD hS ls hl => ?_) (fun j_66 => ?_)
      · obtain ⟨v7, rfl⟩ : ∃ z, z = u := ⟨_, rfl⟩
        have hP : va_P D vwCl [(lo, .inr (3, [.ref l0, .ref l1, .ref l2, .ref l3, .ref l4, .ref l5, .ref l6, .int dn, .int kn])), (l0, .inl (cI, 512, .inl m0)), (l1, .inl (cI, 512, .inl m1)), (l3, .inl (cI, 512, .inl m3)), (l6, .inl (cI, 40, .inl g)), (nw, .inr (8, [.ref sf, .ref sh, .int tu])), (sf, .inl (cI, 40, .inl ff))] H := hP
        have hD : va_D A [(lo, .inr (3, [.ref l0, .ref l1, .ref l2, .ref l3, .ref l4, .ref l5, .ref l6, .int dn, .int kn])), (l0, .inl (cI, 512, .inl m0)), (l1, .inl (cI, 512, .inl m1)), (l3, .inl (cI, 512, .inl m3)), (l6, .inl (cI, 40, .inl g)), (nw, .inr (8, [.ref sf, .ref sh, .int tu])), (sf, .inl (cI, 40, .inl ff))] := hD
        have hl : lv_has ls 9 [(6, .int a_47), (5, .int i), (4, .int d), (0, .ref lo), (1, .ref nw), (2, .int p1), (3, .int p2)] := hl
        refine lv_istore (lv' := [(7, .int v7), (6, .int a_47), (5, .int i), (4, .int d), (0, .ref lo), (1, .ref nw), (2, .int p1), (3, .int p2)]) hx hb dX3_hasSeen_66 hl (by decide) rfl (fun ls hl => ?_)
        refine lv_iload hx hb dX3_hasSeen_68 (lv_at hl 3 rfl) ?_
        refine lv_aload_n hx hb dX3_hasSeen_70 rfl (lv_at hl 4 rfl) ?_
        refine va_get (D := D) (ci := 3) (C := RX3) (T := TX3) (N := 9) hx hb hts iw_X3_hasSeen_X3 hown hK hP 0 rfl rfl 6 (by decide) (hts (.fieldLink RX3 30 "KingTable$Log" "then" "[I") (List.mem_cons_of_mem _ (List.mem_append_left _ (List.mem_append_left _ (List.Mem.head _))))) (fun _ h9 => h9) rfl dX3_hasSeen_71 ?_
        refine lv_iload hx hb dX3_hasSeen_74 (lv_at hl 1 rfl) ?_
        have hi_3 : vp_in a_47 40 := by exact kt_in (by omega) (by omega)
        refine va_iald hx hb hK hP 4 0 rfl rfl hi_3 dX3_hasSeen_76 ?_
        refine lv_topi (fun a_76 ea_76 => ?_)
        have ra_76 := hm6.get hi_3
        rw [← ea_76] at ra_76
        refine lv_iload hx hb dX3_hasSeen_77 (lv_at hl 0 rfl) ?_
        refine kt_join (σ := Int32) 87 9 (fun u => [(lo, .inr (3, [.ref l0, .ref l1, .ref l2, .ref l3, .ref l4, .ref l5, .ref l6, .int dn, .int kn])), (l0, .inl (cI, 512, .inl m0)), (l1, .inl (cI, 512, .inl m1)), (l3, .inl (cI, 512, .inl m3)), (l6, .inl (cI, 40, .inl g)), (nw, .inr (8, [.ref sf, .ref sh, .int tu])), (sf, .inl (cI, 40, .inl ff))]) (fun u => [(7, .int v7), (6, .int a_47), (5, .int i), (4, .int d), (0, .ref lo), (1, .ref nw), (2, .int p1), (3, .int p2)]) (fun u => [.int u, .int d]) (fun u => True) (D := D) (A := A) (H0 := s.heap) (fun u hI H locs hP hD hS ls hl => ?_) (fun j_87 => ?_)
        · obtain ⟨v8, rfl⟩ : ∃ z, z = u := ⟨_, rfl⟩
          have hP : va_P D vwCl [(lo, .inr (3, [.ref l0, .ref l1, .ref l2, .ref l3, .ref l4, .ref l5, .ref l6, .int dn, .int kn])), (l0, .inl (cI, 512, .inl m0)), (l1, .inl (cI, 512, .inl m1)), (l3, .inl (cI, 512, .inl m3)), (l6, .inl (cI, 40, .inl g)), (nw, .inr (8, [.ref sf, .ref sh, .int tu])), (sf, .inl (cI, 40, .inl ff))] H := hP
          have hD : va_D A [(lo, .inr (3, [.ref l0, .ref l1, .ref l2, .ref l3, .ref l4, .ref l5, .ref l6, .int dn, .int kn])), (l0, .inl (cI, 512, .inl m0)), (l1, .inl (cI, 512, .inl m1)), (l3, .inl (cI, 512, .inl m3)), (l6, .inl (cI, 40, .inl g)), (nw, .inr (8, [.ref sf, .ref sh, .int tu])), (sf, .inl (cI, 40, .inl ff))] := hD
          have hl : lv_has ls 9 [(7, .int v7), (6, .int a_47), (5, .int i), (4, .int d), (0, .ref lo), (1, .ref nw), (2, .int p1), (3, .int p2)] := hl
          refine lv_iadd hx hb dX3_hasSeen_87 ?_
          refine lv_topi (fun t_87 et_87 => ?_)
          obtain ⟨k_87, hk_87, hm_87, hM_87⟩ := kt_addk et_87
          refine lv_istore (lv' := [(4, .int t_87), (7, .int v7), (6, .int a_47), (5, .int i), (0, .ref lo), (1, .ref nw), (2, .int p1), (3, .int p2)]) hx hb dX3_hasSeen_88 hl (by decide) rfl (fun ls hl => ?_)
          refine lv_aload_n hx hb dX3_hasSeen_90 rfl (lv_at hl 4 rfl) ?_
          refine va_get (D := D) (ci := 3) (C := RX3) (T := TX3) (N := 9) hx hb hts iw_X3_hasSeen_X3 hown hK hP 0 rfl rfl 6 (by decide) (hts (.fieldLink RX3 30 "KingTable$Log" "then" "[I") (List.mem_cons_of_mem _ (List.mem_append_left _ (List.mem_append_left _ (List.Mem.head _))))) (fun _ h9 => h9) rfl dX3_hasSeen_91 ?_
          refine lv_iload hx hb dX3_hasSeen_94 (lv_at hl 2 rfl) ?_
          refine lv_aload_n hx hb dX3_hasSeen_96 rfl (lv_at hl 4 rfl) ?_
          refine va_get (D := D) (ci := 3) (C := RX3) (T := TX3) (N := 9) hx hb hts iw_X3_hasSeen_X3 hown hK hP 0 rfl rfl 1 (by decide) (hts (.fieldLink RX3 15 "KingTable$Log" "froms" "[I") (List.mem_cons_of_mem _ (List.mem_append_left _ (List.mem_append_left _ (List.mem_cons_of_mem _ (List.mem_cons_of_mem _ (List.mem_cons_of_mem _ (List.mem_cons_of_mem _ (List.mem_cons_of_mem _ (List.mem_cons_of_mem _ (List.mem_cons_of_mem _ (List.mem_cons_of_mem _ (List.Mem.head _))))))))))))) (fun _ h9 => h9) rfl dX3_hasSeen_97 ?_
          refine lv_iload hx hb dX3_hasSeen_100 (lv_at hl 3 rfl) ?_
          have hi_4 : vp_in i 512 := by exact kt_in (by omega) (by omega)
          refine va_iald hx hb hK hP 2 0 rfl rfl hi_4 dX3_hasSeen_102 ?_
          refine lv_topi (fun a_102 ea_102 => ?_)
          have ra_102 := hm1.get hi_4
          rw [← ea_102] at ra_102
          have hi_5 : vp_in a_47 40 := by exact kt_in (by omega) (by omega)
          refine va_iast hx hb hK hP hD hS 4 0 rfl rfl hi_5 dX3_hasSeen_103 (fun H locs hP hD hS => ?_)
          have hm6 : kt_r (upd g a_47.toNatClampNeg a_102) 40 (-1) 80 := hm6.upd (by omega) (by omega)
          have hP : va_P D vwCl [(lo, .inr (3, [.ref l0, .ref l1, .ref l2, .ref l3, .ref l4, .ref l5, .ref l6, .int dn, .int kn])), (l0, .inl (cI, 512, .inl m0)), (l1, .inl (cI, 512, .inl m1)), (l3, .inl (cI, 512, .inl m3)), (l6, .inl (cI, 40, .inl (upd g a_47.toNatClampNeg a_102))), (nw, .inr (8, [.ref sf, .ref sh, .int tu])), (sf, .inl (cI, 40, .inl ff))] H := hP
          have hD : va_D A [(lo, .inr (3, [.ref l0, .ref l1, .ref l2, .ref l3, .ref l4, .ref l5, .ref l6, .int dn, .int kn])), (l0, .inl (cI, 512, .inl m0)), (l1, .inl (cI, 512, .inl m1)), (l3, .inl (cI, 512, .inl m3)), (l6, .inl (cI, 40, .inl (upd g a_47.toNatClampNeg a_102))), (nw, .inr (8, [.ref sf, .ref sh, .int tu])), (sf, .inl (cI, 40, .inl ff))] := hD
          refine lv_iload hx hb dX3_hasSeen_104 (lv_at hl 0 rfl) ?_
          refine lv_aload_n hx hb dX3_hasSeen_106 rfl (lv_at hl 4 rfl) ?_
          refine va_get (D := D) (ci := 3) (C := RX3) (T := TX3) (N := 9) hx hb hts iw_X3_hasSeen_X3 hown hK hP 0 rfl rfl 6 (by decide) (hts (.fieldLink RX3 30 "KingTable$Log" "then" "[I") (List.mem_cons_of_mem _ (List.mem_append_left _ (List.mem_append_left _ (List.Mem.head _))))) (fun _ h9 => h9) rfl dX3_hasSeen_107 ?_
          refine lv_iload hx hb dX3_hasSeen_110 (lv_at hl 2 rfl) ?_
          have hi_6 : vp_in a_47 40 := by exact kt_in (by omega) (by omega)
          refine va_iald hx hb hK hP 4 0 rfl rfl hi_6 dX3_hasSeen_112 ?_
          refine lv_topi (fun a_112 ea_112 => ?_)
          have ra_112 := hm6.get hi_6
          rw [← ea_112] at ra_112
          refine lv_iload hx hb dX3_hasSeen_113 (lv_at hl 1 rfl) ?_
          refine kt_join (σ := Int32) 123 9 (fun u => [(lo, .inr (3, [.ref l0, .ref l1, .ref l2, .ref l3, .ref l4, .ref l5, .ref l6, .int dn, .int kn])), (l0, .inl (cI, 512, .inl m0)), (l1, .inl (cI, 512, .inl m1)), (l3, .inl (cI, 512, .inl m3)), (l6, .inl (cI, 40, .inl (upd g a_47.toNatClampNeg a_102))), (nw, .inr (8, [.ref sf, .ref sh, .int tu])), (sf, .inl (cI, 40, .inl ff))]) (fun u => [(4, .int t_87), (7, .int v7), (6, .int a_47), (5, .int i), (0, .ref lo), (1, .ref nw), (2, .int p1), (3, .int p2)]) (fun u => [.int u, .int t_87]) (fun u => True) (D := D) (A := A) (H0 := s.heap) (fun u hI H locs hP hD hS ls hl => ?_) (fun j_123 => ?_)
          · obtain ⟨v9, rfl⟩ : ∃ z, z = u := ⟨_, rfl⟩
            have hP : va_P D vwCl [(lo, .inr (3, [.ref l0, .ref l1, .ref l2, .ref l3, .ref l4, .ref l5, .ref l6, .int dn, .int kn])), (l0, .inl (cI, 512, .inl m0)), (l1, .inl (cI, 512, .inl m1)), (l3, .inl (cI, 512, .inl m3)), (l6, .inl (cI, 40, .inl (upd g a_47.toNatClampNeg a_102))), (nw, .inr (8, [.ref sf, .ref sh, .int tu])), (sf, .inl (cI, 40, .inl ff))] H := hP
            have hD : va_D A [(lo, .inr (3, [.ref l0, .ref l1, .ref l2, .ref l3, .ref l4, .ref l5, .ref l6, .int dn, .int kn])), (l0, .inl (cI, 512, .inl m0)), (l1, .inl (cI, 512, .inl m1)), (l3, .inl (cI, 512, .inl m3)), (l6, .inl (cI, 40, .inl (upd g a_47.toNatClampNeg a_102))), (nw, .inr (8, [.ref sf, .ref sh, .int tu])), (sf, .inl (cI, 40, .inl ff))] := hD
            have hl : lv_has ls 9 [(4, .int t_87), (7, .int v7), (6, .int a_47), (5, .int i), (0, .ref lo), (1, .ref nw), (2, .int p1), (3, .int p2)] := hl
            refine lv_isub hx hb dX3_hasSeen_123 ?_
            refine lv_topi (fun t_123 et_123 => ?_)
            obtain ⟨k_123, hk_123, hm_123, hM_123⟩ := kt_subk et_123
            refine lv_istore (lv' := [(4, .int t_123), (7, .int v7), (6, .int a_47), (5, .int i), (0, .ref lo), (1, .ref nw), (2, .int p1), (3, .int p2)]) hx hb dX3_hasSeen_124 hl (by decide) rfl (fun ls hl => ?_)
            refine lv_aload_n hx hb dX3_hasSeen_126 rfl (lv_at hl 4 rfl) ?_
            refine va_get (D := D) (ci := 3) (C := RX3) (T := TX3) (N := 9) hx hb hts iw_X3_hasSeen_X3 hown hK hP 0 rfl rfl 7 (by decide) (hts (.fieldLink RX3 33 "KingTable$Log" "done" "I") (List.mem_cons_of_mem _ (List.mem_append_left _ (List.mem_append_left _ (List.mem_cons_of_mem _ (List.mem_cons_of_mem _ (List.mem_cons_of_mem _ (List.mem_cons_of_mem _ (List.mem_cons_of_mem _ (List.Mem.head _)))))))))) (fun _ h9 => h9) rfl dX3_hasSeen_127 ?_
            refine lv_iload hx hb dX3_hasSeen_130 (lv_at hl 3 rfl) ?_
            refine lv_isub hx hb dX3_hasSeen_132 ?_
            refine lv_topi (fun t_132 et_132 => ?_)
            obtain ⟨k_132, hk_132, hm_132, hM_132⟩ := kt_subk et_132
            refine lv_iconst (v := 1) hx hb dX3_hasSeen_133 (by decide) ?_
            refine lv_iand hx hb dX3_hasSeen_134 ?_
            refine lv_topi (fun t_134 et_134 => ?_)
            have ha_134 : 0 ≤ t_134.toInt ∧ t_134.toInt ≤ 1 := by rw [et_134]; exact kt_and1 _
            refine lv_iconst (v := 1) hx hb dX3_hasSeen_135 (by decide) ?_
            refine kt_join (σ := Int32) 144 9 (fun u => [(lo, .inr (3, [.ref l0, .ref l1, .ref l2, .ref l3, .ref l4, .ref l5, .ref l6, .int dn, .int kn])), (l0, .inl (cI, 512, .inl m0)), (l1, .inl (cI, 512, .inl m1)), (l3, .inl (cI, 512, .inl m3)), (l6, .inl (cI, 40, .inl (upd g a_47.toNatClampNeg a_102))), (nw, .inr (8, [.ref sf, .ref sh, .int tu])), (sf, .inl (cI, 40, .inl ff))]) (fun u => [(4, .int t_123), (7, .int v7), (6, .int a_47), (5, .int i), (0, .ref lo), (1, .ref nw), (2, .int p1), (3, .int p2)]) (fun u => [.int u]) (fun u => True) (D := D) (A := A) (H0 := s.heap) (fun u hI H locs hP hD hS ls hl => ?_) (fun j_144 => ?_)
            · obtain ⟨v10, rfl⟩ : ∃ z, z = u := ⟨_, rfl⟩
              have hP : va_P D vwCl [(lo, .inr (3, [.ref l0, .ref l1, .ref l2, .ref l3, .ref l4, .ref l5, .ref l6, .int dn, .int kn])), (l0, .inl (cI, 512, .inl m0)), (l1, .inl (cI, 512, .inl m1)), (l3, .inl (cI, 512, .inl m3)), (l6, .inl (cI, 40, .inl (upd g a_47.toNatClampNeg a_102))), (nw, .inr (8, [.ref sf, .ref sh, .int tu])), (sf, .inl (cI, 40, .inl ff))] H := hP
              have hD : va_D A [(lo, .inr (3, [.ref l0, .ref l1, .ref l2, .ref l3, .ref l4, .ref l5, .ref l6, .int dn, .int kn])), (l0, .inl (cI, 512, .inl m0)), (l1, .inl (cI, 512, .inl m1)), (l3, .inl (cI, 512, .inl m3)), (l6, .inl (cI, 40, .inl (upd g a_47.toNatClampNeg a_102))), (nw, .inr (8, [.ref sf, .ref sh, .int tu])), (sf, .inl (cI, 40, .inl ff))] := hD
              have hl : lv_has ls 9 [(4, .int t_123), (7, .int v7), (6, .int a_47), (5, .int i), (0, .ref lo), (1, .ref nw), (2, .int p1), (3, .int p2)] := hl
              refine lv_istore (lv' := [(8, .int v10), (4, .int t_123), (7, .int v7), (6, .int a_47), (5, .int i), (0, .ref lo), (1, .ref nw), (2, .int p1), (3, .int p2)]) hx hb dX3_hasSeen_144 hl (by decide) rfl (fun ls hl => ?_)
              refine lv_iload hx hb dX3_hasSeen_146 (lv_at hl 1 rfl) ?_
              refine lv_if_ne (tgt := 158) hx hb dX3_hasSeen_148 (by decide) (fun c_148 => ?_) (fun c_148 => ?_)
              · have d_148 := c_148
                simp only [kt_lt, kt_le, kt_eq, kt_c0, kt_c1, kt_c2, kt_c3, kt_c4, kt_c8, kt_c9, kt_cm1, kt_c81, kt_c40, kt_c7, kt_c5, kt_c6, kt_c512, kt_c10, kt_c10000] at d_148
                obtain ⟨t_158, et_158⟩ : ∃ y : Int32, y = i + (-1) := ⟨_, rfl⟩
                obtain ⟨k_158, hk_158, hm_158, hM_158⟩ := kt_addk et_158
                try simp only [kt_c0, kt_c1, kt_c2, kt_c3, kt_c4, kt_c8, kt_c9, kt_cm1, kt_c81, kt_c40, kt_c7, kt_c5, kt_c6, kt_c512, kt_c10, kt_c10000] at hk_158
                refine lv_iinc (v := t_158) (lv' := [(5, .int t_158), (8, .int v10), (4, .int t_123), (7, .int v7), (6, .int a_47), (0, .ref lo), (1, .ref nw), (2, .int p1), (3, .int p2)]) hx hb dX3_hasSeen_158 hl (k := 4) rfl (by rw [et_158]; rfl) (by decide) rfl (fun ls hl => ?_)
                refine lv_goto (tgt := 26) hx hb dX3_hasSeen_161 (by decide) ?_
                exact ih_26 (t_158, t_123, (upd g a_47.toNatClampNeg a_102)) (by show (-1 ≤ t_158.toInt ∧ t_158.toInt ≤ 511 ∧ t_158.toInt + 1 < n_26) ∧ kt_r (upd g a_47.toNatClampNeg a_102) 40 (-1) 80; exact ⟨by omega, hm6⟩) H _ hP hD hS ls (lv_sub hl [0, 2, 5, 6, 7, 8] rfl)
              · have d_148 := c_148
                simp only [kt_lt, kt_le, kt_eq, kt_c0, kt_c1, kt_c2, kt_c3, kt_c4, kt_c8, kt_c9, kt_cm1, kt_c81, kt_c40, kt_c7, kt_c5, kt_c6, kt_c512, kt_c10, kt_c10000] at d_148
                refine lv_iload hx hb dX3_hasSeen_151 (lv_at hl 0 rfl) ?_
                refine lv_if_eq (tgt := 158) hx hb dX3_hasSeen_153 (by decide) (fun c_153 => ?_) (fun c_153 => ?_)
                · have d_153 := c_153
                  simp only [kt_lt, kt_le, kt_eq, kt_c0, kt_c1, kt_c2, kt_c3, kt_c4, kt_c8, kt_c9, kt_cm1, kt_c81, kt_c40, kt_c7, kt_c5, kt_c6, kt_c512, kt_c10, kt_c10000] at d_153
                  obtain ⟨t_158, et_158⟩ : ∃ y : Int32, y = i + (-1) := ⟨_, rfl⟩
                  obtain ⟨k_158, hk_158, hm_158, hM_158⟩ := kt_addk et_158
                  try simp only [kt_c0, kt_c1, kt_c2, kt_c3, kt_c4, kt_c8, kt_c9, kt_cm1, kt_c81, kt_c40, kt_c7, kt_c5, kt_c6, kt_c512, kt_c10, kt_c10000] at hk_158
                  refine lv_iinc (v := t_158) (lv' := [(5, .int t_158), (8, .int v10), (4, .int t_123), (7, .int v7), (6, .int a_47), (0, .ref lo), (1, .ref nw), (2, .int p1), (3, .int p2)]) hx hb dX3_hasSeen_158 hl (k := 4) rfl (by rw [et_158]; rfl) (by decide) rfl (fun ls hl => ?_)
                  refine lv_goto (tgt := 26) hx hb dX3_hasSeen_161 (by decide) ?_
                  exact ih_26 (t_158, t_123, (upd g a_47.toNatClampNeg a_102)) (by show (-1 ≤ t_158.toInt ∧ t_158.toInt ≤ 511 ∧ t_158.toInt + 1 < n_26) ∧ kt_r (upd g a_47.toNatClampNeg a_102) 40 (-1) 80; exact ⟨by omega, hm6⟩) H _ hP hD hS ls (lv_sub hl [0, 2, 5, 6, 7, 8] rfl)
                · have d_153 := c_153
                  simp only [kt_lt, kt_le, kt_eq, kt_c0, kt_c1, kt_c2, kt_c3, kt_c4, kt_c8, kt_c9, kt_cm1, kt_c81, kt_c40, kt_c7, kt_c5, kt_c6, kt_c512, kt_c10, kt_c10000] at d_153
                  refine lv_iconst (v := 1) hx hb dX3_hasSeen_156 (by decide) ?_
                  exact kt_rz (upd g a_47.toNatClampNeg a_102) hx hb hr hlk hS dX3_hasSeen_157 hP hD (by show (0 ≤ (1 : Int32).toInt ∧ (1 : Int32).toInt ≤ 1) ∧ kt_r (upd g a_47.toNatClampNeg a_102) 40 (-1) 80; exact ⟨by decide, hm6⟩) rfl
            refine lv_icmp_ne (tgt := 143) hx hb dX3_hasSeen_136 (by decide) (fun c_136 => ?_) (fun c_136 => ?_)
            · have d_136 := c_136
              simp only [kt_lt, kt_le, kt_eq, kt_c0, kt_c1, kt_c2, kt_c3, kt_c4, kt_c8, kt_c9, kt_cm1, kt_c81, kt_c40, kt_c7, kt_c5, kt_c6, kt_c512, kt_c10, kt_c10000] at d_136
              refine lv_iconst (v := 0) hx hb dX3_hasSeen_143 (by decide) ?_
              exact j_144 (0 : Int32) (by trivial) H _ hP hD hS ls (lv_sub hl [0, 1, 2, 3, 4, 5, 6, 7] rfl)
            · have d_136 := c_136
              simp only [kt_lt, kt_le, kt_eq, kt_c0, kt_c1, kt_c2, kt_c3, kt_c4, kt_c8, kt_c9, kt_cm1, kt_c81, kt_c40, kt_c7, kt_c5, kt_c6, kt_c512, kt_c10, kt_c10000] at d_136
              refine lv_iconst (v := 1) hx hb dX3_hasSeen_139 (by decide) ?_
              refine lv_goto (tgt := 144) hx hb dX3_hasSeen_140 (by decide) ?_
              exact j_144 (1 : Int32) (by trivial) H _ hP hD hS ls (lv_sub hl [0, 1, 2, 3, 4, 5, 6, 7] rfl)
          refine lv_icmp_ne (tgt := 122) hx hb dX3_hasSeen_115 (by decide) (fun c_115 => ?_) (fun c_115 => ?_)
          · have d_115 := c_115
            simp only [kt_lt, kt_le, kt_eq, kt_c0, kt_c1, kt_c2, kt_c3, kt_c4, kt_c8, kt_c9, kt_cm1, kt_c81, kt_c40, kt_c7, kt_c5, kt_c6, kt_c512, kt_c10, kt_c10000] at d_115
            refine lv_iconst (v := 0) hx hb dX3_hasSeen_122 (by decide) ?_
            exact j_123 (0 : Int32) (by trivial) H _ hP hD hS ls (lv_sub hl [0, 1, 2, 3, 4, 5, 6, 7] rfl)
          · have d_115 := c_115
            simp only [kt_lt, kt_le, kt_eq, kt_c0, kt_c1, kt_c2, kt_c3, kt_c4, kt_c8, kt_c9, kt_cm1, kt_c81, kt_c40, kt_c7, kt_c5, kt_c6, kt_c512, kt_c10, kt_c10000] at d_115
            refine lv_iconst (v := 1) hx hb dX3_hasSeen_118 (by decide) ?_
            refine lv_goto (tgt := 123) hx hb dX3_hasSeen_119 (by decide) ?_
            exact j_123 (1 : Int32) (by trivial) H _ hP hD hS ls (lv_sub hl [0, 1, 2, 3, 4, 5, 6, 7] rfl)
        refine lv_icmp_ne (tgt := 86) hx hb dX3_hasSeen_79 (by decide) (fun c_79 => ?_) (fun c_79 => ?_)
        · have d_79 := c_79
          simp only [kt_lt, kt_le, kt_eq, kt_c0, kt_c1, kt_c2, kt_c3, kt_c4, kt_c8, kt_c9, kt_cm1, kt_c81, kt_c40, kt_c7, kt_c5, kt_c6, kt_c512, kt_c10, kt_c10000] at d_79
          refine lv_iconst (v := 0) hx hb dX3_hasSeen_86 (by decide) ?_
          exact j_87 (0 : Int32) (by trivial) H _ hP hD hS ls (lv_sub hl [0, 1, 2, 3, 4, 5, 6, 7] rfl)
        · have d_79 := c_79
          simp only [kt_lt, kt_le, kt_eq, kt_c0, kt_c1, kt_c2, kt_c3, kt_c4, kt_c8, kt_c9, kt_cm1, kt_c81, kt_c40, kt_c7, kt_c5, kt_c6, kt_c512, kt_c10, kt_c10000] at d_79
          refine lv_iconst (v := 1) hx hb dX3_hasSeen_82 (by decide) ?_
          refine lv_goto (tgt := 87) hx hb dX3_hasSeen_83 (by decide) ?_
          exact j_87 (1 : Int32) (by trivial) H _ hP hD hS ls (lv_sub hl [0, 1, 2, 3, 4, 5, 6, 7] rfl)
      refine lv_icmp_ne (tgt := 60) hx hb dX3_hasSeen_53 (by decide) (fun c_53 => ?_) (fun c_53 => ?_)
      · have d_53 := c_53
        simp only [kt_lt, kt_le, kt_eq, kt_c0, kt_c1, kt_c2, kt_c3, kt_c4, kt_c8, kt_c9, kt_cm1, kt_c81, kt_c40, kt_c7, kt_c5, kt_c6, kt_c512, kt_c10, kt_c10000] at d_53
        refine lv_aload_n hx hb dX3_hasSeen_60 rfl (lv_at hl 4 rfl) ?_
        refine lv_iload hx hb dX3_hasSeen_61 (lv_at hl 0 rfl) ?_
        refine kt_pi (wc := [(nw, .inr (8, [.ref sf, .ref sh, .int tu])), (sf, .inl (cI, 40, .inl ff))]) [5, 6] hP hD hS hA rfl (by decide) (fun hPc hDc => va_runV (As := [.int a_47]) (rest := []) ⟨hx, hb, hml, hown, hts⟩ (c_X8_fieldOf l D cI cZ cB H.size nw sf sh tu ff a_47 (by first | assumption | omega | rfl | decide)) (cwV 1 hts gX3_hasSeen_X8_fieldOf rfl rfl rfl (by decide +kernel) ⟨Nat.le_of_ble_eq_true rfl, Nat.le_of_ble_eq_true rfl⟩) (kt_preV hN hK hPc hDc 0 (ci := 8) (q := (RX8, TX8, 3)) rfl rfl) rfl rfl hl.1 rfl (lv_room (Nat.le_of_ble_eq_true rfl)) dX3_hasSeen_63 ⟨Nat.le_of_ble_eq_true rfl, Nat.le_of_ble_eq_true rfl⟩) (fun r_63 _ H locs hw_63 hP hS => ?_)
        exact j_66 r_63 (by trivial) H _ hP hD hS ls (lv_sub hl [0, 1, 2, 3, 4, 5, 6] rfl)
      · have d_53 := c_53
        simp only [kt_lt, kt_le, kt_eq, kt_c0, kt_c1, kt_c2, kt_c3, kt_c4, kt_c8, kt_c9, kt_cm1, kt_c81, kt_c40, kt_c7, kt_c5, kt_c6, kt_c512, kt_c10, kt_c10000] at d_53
        refine lv_iload_n hx hb dX3_hasSeen_56 rfl (lv_at hl 6 rfl) ?_
        refine lv_goto (tgt := 66) hx hb dX3_hasSeen_57 (by decide) ?_
        exact j_66 p2 (by trivial) H _ hP hD hS ls (lv_sub hl [0, 1, 2, 3, 4, 5, 6] rfl)
