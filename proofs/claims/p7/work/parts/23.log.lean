theorem iw_X3_isFull_X3 : ∀ w ∈ wsX30, w ∈ wsX3_isFull := fun _ h => kt_wp_X3_isFull__X30 h
set_option maxHeartbeats 4000000 in
set_option maxRecDepth 100000 in
theorem c_X3_isFull (l : Launch) (D : va_G) (cI cZ cB : ClassId) (sz : Nat) (lo : Nat) (l0 : Nat) (l1 : Nat) (l2 : Nat) (l3 : Nat) (l4 : Nat) (l5 : Nat) (l6 : Nat) (dn : Int32) (kn : Int32) : kt_Mi l yX3_isFull wsX3_isFull { frames := 0, cells := 0, slots := 0, locals := 0 } D (kt_ty cI cZ cB) [.ref lo] sz [(lo, .inr (3, [.ref l0, .ref l1, .ref l2, .ref l3, .ref l4, .ref l5, .ref l6, .int dn, .int kn]))] (fun (r : Int32) (u : Unit) => kt_B r (512 ≤ dn.toInt)) (fun (u : Unit) => [(lo, .inr (3, [.ref l0, .ref l1, .ref l2, .ref l3, .ref l4, .ref l5, .ref l6, .int dn, .int kn]))]) 0 0 := by
  refine kt_Mi.of (cc := cX3_isFull) (maxL := 1) (ret := some .boolean) (by decide) rfl (Nat.le_of_ble_eq_true rfl) ?_
  intro p e s m below meth c A ls H hAt hP hD hS hl
  obtain ⟨hx, hb, hr, hml, hown, hts, hN, hK, hlk, hnm, hA⟩ := hAt
  have hl : lv_has ls 1 [(0, .ref lo)] := hl
  have hown : s.vm.findClass RX3 = some m.cls := hown
  refine lv_aload_n hx hb dX3_isFull_0 rfl (lv_at hl 0 rfl) ?_
  refine va_get (D := D) (ci := 3) (C := RX3) (T := TX3) (N := 9) hx hb hts iw_X3_isFull_X3 hown hK hP 0 rfl rfl 7 (by decide) (hts (.fieldLink RX3 33 "KingTable$Log" "done" "I") (List.mem_cons_of_mem _ (List.mem_append_left _ (List.Mem.head _)))) (fun _ h9 => h9) rfl dX3_isFull_1 ?_
  refine lv_sipush (v := 512) hx hb dX3_isFull_4 (by decide) ?_
  refine lv_icmp_lt (tgt := 14) hx hb dX3_isFull_7 (by decide) (fun c_7 => ?_) (fun c_7 => ?_)
  · have d_7 := c_7
    simp only [kt_lt, kt_le, kt_eq, kt_c0, kt_c1, kt_c2, kt_c3, kt_c4, kt_c8, kt_c9, kt_cm1, kt_c81, kt_c40, kt_c7, kt_c5, kt_c6, kt_c512, kt_c10, kt_c10000] at d_7
    refine lv_iconst (v := 0) hx hb dX3_isFull_14 (by decide) ?_
    exact kt_rz () hx hb hr hlk hS dX3_isFull_15 hP hD (by show kt_B (0 : Int32) (512 ≤ dn.toInt); first | exact Or.inl ⟨rfl, by omega⟩ | exact Or.inr ⟨rfl, by omega⟩) rfl
  · have d_7 := c_7
    simp only [kt_lt, kt_le, kt_eq, kt_c0, kt_c1, kt_c2, kt_c3, kt_c4, kt_c8, kt_c9, kt_cm1, kt_c81, kt_c40, kt_c7, kt_c5, kt_c6, kt_c512, kt_c10, kt_c10000] at d_7
    refine lv_iconst (v := 1) hx hb dX3_isFull_10 (by decide) ?_
    refine lv_goto (tgt := 15) hx hb dX3_isFull_11 (by decide) ?_
    exact kt_rz () hx hb hr hlk hS dX3_isFull_15 hP hD (by show kt_B (1 : Int32) (512 ≤ dn.toInt); first | exact Or.inl ⟨rfl, by omega⟩ | exact Or.inr ⟨rfl, by omega⟩) rfl

theorem iw_X3_latestTakings_X3 : ∀ w ∈ wsX30, w ∈ wsX3_latestTakings := fun _ h => kt_wp_X3_latestTakings__X30 h
theorem iw_X3_latestVictim_X3 : ∀ w ∈ wsX30, w ∈ wsX3_latestVictim := fun _ h => kt_wp_X3_latestVictim__X30 h
theorem iw_X3_write_X3 : ∀ w ∈ wsX30, w ∈ wsX3_write := fun _ h => kt_wp_X3_write__X30 h
theorem iw_X3_write_X6 : ∀ w ∈ wsX60, w ∈ wsX3_write := fun _ h => kt_wp_X3_write__X60 h
theorem iw_X3_unwind_X3 : ∀ w ∈ wsX30, w ∈ wsX3_unwind := fun _ h => kt_wp_X3_unwind__X30 h
theorem iw_X3_unwind_X8 : ∀ w ∈ wsX80, w ∈ wsX3_unwind := fun _ h => kt_wp_X3_unwind__X80 h
theorem iw_X3_hasSeen_X8 : ∀ w ∈ wsX80, w ∈ wsX3_hasSeen := fun _ h => kt_wp_X3_hasSeen__X80 h
theorem iw_X3_hasSeen_X3 : ∀ w ∈ wsX30, w ∈ wsX3_hasSeen := fun _ h => kt_wp_X3_hasSeen__X30 h