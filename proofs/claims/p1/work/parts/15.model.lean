theorem iw_X11_init_X11 : ∀ w ∈ wsX110, w ∈ wsX11_init := by decide +kernel
set_option maxHeartbeats 4000000 in
set_option maxRecDepth 100000 in
theorem c_X11_init (l : Launch) (D : va_G) (cI cZ cB : ClassId) (sz : Nat) (mx : Nat) : kt_Mv l yX11_init wsX11_init { frames := 1, cells := 14, slots := 216966, locals := 12 } D (kt_ty cI cZ cB) [.ref mx] sz [(mx, .inr (11, [.int 0, .int 0, .null, .int 0, .int 0, .int 0, .int 0, .int 0, .int 0, .int 0, .int 0, .int 0, .null, .null, .null, .null, .null, .null, .int 0, .int 0, .null, .int 0, .null, .null, .int 0, .null, .null, .null, .null]))] (fun (u : Nat × Nat × Nat × Nat × Nat × Nat × Nat × Nat × Nat × Nat × Nat × Nat × Nat × Nat) => True) (fun (u : Nat × Nat × Nat × Nat × Nat × Nat × Nat × Nat × Nat × Nat × Nat × Nat × Nat × Nat) => [(mx, .inr (11, [.int 3, .int 3, .ref u.1, .int 0, .int 4, .int 0, .int 0, .int 1, .int 0, .int 0, .int 0, .int 0, .ref u.2.1, .ref u.2.2.1, .ref u.2.2.2.1, .ref u.2.2.2.2.1, .ref u.2.2.2.2.2.1, .ref u.2.2.2.2.2.2.1, .int 0, .int 0, .ref u.2.2.2.2.2.2.2.1, .int 0, .ref u.2.2.2.2.2.2.2.2.1, .ref u.2.2.2.2.2.2.2.2.2.1, .int 0, .ref u.2.2.2.2.2.2.2.2.2.2.1, .ref u.2.2.2.2.2.2.2.2.2.2.2.1, .ref u.2.2.2.2.2.2.2.2.2.2.2.2.1, .ref u.2.2.2.2.2.2.2.2.2.2.2.2.2])), (u.1, .inl (cI, 81, .inl (fun _ => 0))), (u.2.1, .inl (cI, 40, .inl (fun _ => 0))), (u.2.2.1, .inl (cI, 40, .inl (fun _ => 0))), (u.2.2.2.1, .inl (cI, 81, .inl (fun _ => 0))), (u.2.2.2.2.1, .inl (cI, 81, .inl (fun _ => 0))), (u.2.2.2.2.2.1, .inl (cI, 4200, .inl (fun _ => 0))), (u.2.2.2.2.2.2.1, .inl (cB, 172241, .inl (fun _ => 0))), (u.2.2.2.2.2.2.2.1, .inl (cZ, 40, .inl (fun _ => 0))), (u.2.2.2.2.2.2.2.2.1, .inl (cZ, 81, .inl (fun _ => 0))), (u.2.2.2.2.2.2.2.2.2.1, .inl (cI, 81, .inl (fun _ => 0))), (u.2.2.2.2.2.2.2.2.2.2.1, .inl (cI, 10000, .inl (fun _ => 0))), (u.2.2.2.2.2.2.2.2.2.2.2.1, .inl (cI, 10000, .inl (fun _ => 0))), (u.2.2.2.2.2.2.2.2.2.2.2.2.1, .inl (cI, 10000, .inl (fun _ => 0))), (u.2.2.2.2.2.2.2.2.2.2.2.2.2, .inl (cI, 10000, .inl (fun _ => 0)))]) 14 216966 := by
  refine kt_Mv.of (cc := cX11_init) (maxL := 1) (ret := none) (by decide) rfl (Nat.le_of_ble_eq_true rfl) ?_
  intro p e s m below meth c A ls H hAt hP hD hS hl
  obtain ⟨hx, hb, hr, hml, hown, hts, hN, hK, hlk, hnm, hA⟩ := hAt
  have hl : lv_has ls 1 [(0, .ref mx)] := hl
  have hown : s.vm.findClass RX11 = some m.cls := hown
  refine lv_aload_n hx hb dX11_init_0 rfl (lv_at hl 0 rfl) ?_
  refine W.objInit hx hb hown (hts (.methodLink RX11 1 objectInit) (by decide +kernel)) (hts (.instanceMethod objectInit) (by decide +kernel)) (hts (.code objectInit ⟨#[0xb1]⟩ 1 none) (by decide +kernel)) rfl (by rw [hml]; exact hl.1) rfl dX11_init_1 (Nat.le_of_ble_eq_true rfl) (Nat.le_of_ble_eq_true rfl) ?_
  refine W.eq (g2 := F0 m 4 ls []) rfl ?_
  refine lv_aload_n hx hb dX11_init_4 rfl (lv_at hl 0 rfl) ?_
  refine lv_iconst (v := 3) hx hb dX11_init_5 (by decide) ?_
  refine va_put (D := D) (ci := 11) (v := .int 3) (ty := .int) (C := RX11) (T := TX11) (N := 29) hx hb hts iw_X11_init_X11 tyX11 tyX11_ok nmX11 hown hK hP hD hS 0 rfl rfl 0 (by decide) (hts (.fieldLink RX11 7 "KingTableModel" "lines" "I") (by decide +kernel)) (fun _ h9 => h9) rfl (by decide +kernel) rfl rfl (Nat.le_of_ble_eq_true rfl) dX11_init_6 (fun H locs hP hD hS => ?_)
  have hP : va_P D vwCl [(mx, .inr (11, [.int 3, .int 0, .null, .int 0, .int 0, .int 0, .int 0, .int 0, .int 0, .int 0, .int 0, .int 0, .null, .null, .null, .null, .null, .null, .int 0, .int 0, .null, .int 0, .null, .null, .int 0, .null, .null, .null, .null]))] H := hP
  have hD : va_D A [(mx, .inr (11, [.int 3, .int 0, .null, .int 0, .int 0, .int 0, .int 0, .int 0, .int 0, .int 0, .int 0, .int 0, .null, .null, .null, .null, .null, .null, .int 0, .int 0, .null, .int 0, .null, .null, .int 0, .null, .null, .null, .null]))] := hD
  refine lv_aload_n hx hb dX11_init_9 rfl (lv_at hl 0 rfl) ?_
  refine lv_iconst (v := 3) hx hb dX11_init_10 (by decide) ?_
  refine va_put (D := D) (ci := 11) (v := .int 3) (ty := .int) (C := RX11) (T := TX11) (N := 29) hx hb hts iw_X11_init_X11 tyX11 tyX11_ok nmX11 hown hK hP hD hS 0 rfl rfl 1 (by decide) (hts (.fieldLink RX11 13 "KingTableModel" "wide" "I") (by decide +kernel)) (fun _ h9 => h9) rfl (by decide +kernel) rfl rfl (Nat.le_of_ble_eq_true rfl) dX11_init_11 (fun H locs hP hD hS => ?_)
  have hP : va_P D vwCl [(mx, .inr (11, [.int 3, .int 3, .null, .int 0, .int 0, .int 0, .int 0, .int 0, .int 0, .int 0, .int 0, .int 0, .null, .null, .null, .null, .null, .null, .int 0, .int 0, .null, .int 0, .null, .null, .int 0, .null, .null, .null, .null]))] H := hP
  have hD : va_D A [(mx, .inr (11, [.int 3, .int 3, .null, .int 0, .int 0, .int 0, .int 0, .int 0, .int 0, .int 0, .int 0, .int 0, .null, .null, .null, .null, .null, .null, .int 0, .int 0, .null, .int 0, .null, .null, .int 0, .null, .null, .null, .null]))] := hD
  refine lv_aload_n hx hb dX11_init_14 rfl (lv_at hl 0 rfl) ?_
  refine lv_bipush (v := 81) hx hb dX11_init_15 (by decide) ?_
  refine kt_newa (atype := .int) (ty := .int) (cA := cI) hx hb (hts (.arrayClass .int) (by decide +kernel)) rfl hK hP hD hS hA 0 rfl (fun _ h => h) (N' := 81) (fun _ => rfl) (by decide) (by decide) (Nat.le_of_ble_eq_true rfl) (Nat.le_of_ble_eq_true rfl) (Nat.le_of_ble_eq_true rfl) dX11_init_17 (fun q17 H hP hD hS => ?_)
  have hP : va_P D vwCl [(mx, .inr (11, [.int 3, .int 3, .null, .int 0, .int 0, .int 0, .int 0, .int 0, .int 0, .int 0, .int 0, .int 0, .null, .null, .null, .null, .null, .null, .int 0, .int 0, .null, .int 0, .null, .null, .int 0, .null, .null, .null, .null])), (q17, .inl (cI, 81, .inl (fun _ => 0)))] H := hP
  have hD : va_D A [(mx, .inr (11, [.int 3, .int 3, .null, .int 0, .int 0, .int 0, .int 0, .int 0, .int 0, .int 0, .int 0, .int 0, .null, .null, .null, .null, .null, .null, .int 0, .int 0, .null, .int 0, .null, .null, .int 0, .null, .null, .null, .null])), (q17, .inl (cI, 81, .inl (fun _ => 0)))] := hD
  refine W.widen (k := 1) (n := 81) (Nat.le_of_ble_eq_true rfl) (Nat.le_of_ble_eq_true rfl) ?_
  refine va_putF (D := D) (ci := 11) (v := .ref q17) (ty := .array .int) (C := RX11) (T := TX11) (N := 29) hx hb hts iw_X11_init_X11 tyX11 tyX11_ok nmX11 hown hK hP hD hS 0 rfl rfl 2 (by decide) (hts (.fieldLink RX11 16 "KingTableModel" "signs" "[I") (by decide +kernel)) (fun _ h9 => h9) rfl hnm rfl (by decide +kernel) rfl rfl (Nat.le_of_ble_eq_true rfl) dX11_init_19 (fun H locs hP hD hS => ?_)
  have hP : va_P D vwCl [(mx, .inr (11, [.int 3, .int 3, .ref q17, .int 0, .int 0, .int 0, .int 0, .int 0, .int 0, .int 0, .int 0, .int 0, .null, .null, .null, .null, .null, .null, .int 0, .int 0, .null, .int 0, .null, .null, .int 0, .null, .null, .null, .null])), (q17, .inl (cI, 81, .inl (fun _ => 0)))] H := hP
  have hD : va_D A [(mx, .inr (11, [.int 3, .int 3, .ref q17, .int 0, .int 0, .int 0, .int 0, .int 0, .int 0, .int 0, .int 0, .int 0, .null, .null, .null, .null, .null, .null, .int 0, .int 0, .null, .int 0, .null, .null, .int 0, .null, .null, .null, .null])), (q17, .inl (cI, 81, .inl (fun _ => 0)))] := hD
  refine lv_aload_n hx hb dX11_init_22 rfl (lv_at hl 0 rfl) ?_
  refine lv_iconst (v := 4) hx hb dX11_init_23 (by decide) ?_
  refine va_put (D := D) (ci := 11) (v := .int 4) (ty := .int) (C := RX11) (T := TX11) (N := 29) hx hb hts iw_X11_init_X11 tyX11 tyX11_ok nmX11 hown hK hP hD hS 0 rfl rfl 4 (by decide) (hts (.fieldLink RX11 20 "KingTableModel" "hard" "I") (by decide +kernel)) (fun _ h9 => h9) rfl (by decide +kernel) rfl rfl (Nat.le_of_ble_eq_true rfl) dX11_init_24 (fun H locs hP hD hS => ?_)
  have hP : va_P D vwCl [(mx, .inr (11, [.int 3, .int 3, .ref q17, .int 0, .int 4, .int 0, .int 0, .int 0, .int 0, .int 0, .int 0, .int 0, .null, .null, .null, .null, .null, .null, .int 0, .int 0, .null, .int 0, .null, .null, .int 0, .null, .null, .null, .null])), (q17, .inl (cI, 81, .inl (fun _ => 0)))] H := hP
  have hD : va_D A [(mx, .inr (11, [.int 3, .int 3, .ref q17, .int 0, .int 4, .int 0, .int 0, .int 0, .int 0, .int 0, .int 0, .int 0, .null, .null, .null, .null, .null, .null, .int 0, .int 0, .null, .int 0, .null, .null, .int 0, .null, .null, .null, .null])), (q17, .inl (cI, 81, .inl (fun _ => 0)))] := hD
  refine lv_aload_n hx hb dX11_init_27 rfl (lv_at hl 0 rfl) ?_
  refine lv_iconst (v := 1) hx hb dX11_init_28 (by decide) ?_
  refine va_put (D := D) (ci := 11) (v := .int 1) (ty := .boolean) (C := RX11) (T := TX11) (N := 29) hx hb hts iw_X11_init_X11 tyX11 tyX11_ok nmX11 hown hK hP hD hS 0 rfl rfl 7 (by decide) (hts (.fieldLink RX11 23 "KingTableModel" "kingTakes" "Z") (by decide +kernel)) (fun _ h9 => h9) rfl (by decide +kernel) rfl rfl (Nat.le_of_ble_eq_true rfl) dX11_init_29 (fun H locs hP hD hS => ?_)
  have hP : va_P D vwCl [(mx, .inr (11, [.int 3, .int 3, .ref q17, .int 0, .int 4, .int 0, .int 0, .int 1, .int 0, .int 0, .int 0, .int 0, .null, .null, .null, .null, .null, .null, .int 0, .int 0, .null, .int 0, .null, .null, .int 0, .null, .null, .null, .null])), (q17, .inl (cI, 81, .inl (fun _ => 0)))] H := hP
  have hD : va_D A [(mx, .inr (11, [.int 3, .int 3, .ref q17, .int 0, .int 4, .int 0, .int 0, .int 1, .int 0, .int 0, .int 0, .int 0, .null, .null, .null, .null, .null, .null, .int 0, .int 0, .null, .int 0, .null, .null, .int 0, .null, .null, .null, .null])), (q17, .inl (cI, 81, .inl (fun _ => 0)))] := hD
  refine lv_aload_n hx hb dX11_init_32 rfl (lv_at hl 0 rfl) ?_
  refine lv_bipush (v := 40) hx hb dX11_init_33 (by decide) ?_
  refine kt_newa (atype := .int) (ty := .int) (cA := cI) hx hb (hts (.arrayClass .int) (by decide +kernel)) rfl hK hP hD hS hA 0 rfl (fun _ h => h) (N' := 40) (fun _ => rfl) (by decide) (by decide) (Nat.le_of_ble_eq_true rfl) (Nat.le_of_ble_eq_true rfl) (Nat.le_of_ble_eq_true rfl) dX11_init_35 (fun q35 H hP hD hS => ?_)
  have hP : va_P D vwCl [(mx, .inr (11, [.int 3, .int 3, .ref q17, .int 0, .int 4, .int 0, .int 0, .int 1, .int 0, .int 0, .int 0, .int 0, .null, .null, .null, .null, .null, .null, .int 0, .int 0, .null, .int 0, .null, .null, .int 0, .null, .null, .null, .null])), (q17, .inl (cI, 81, .inl (fun _ => 0))), (q35, .inl (cI, 40, .inl (fun _ => 0)))] H := hP
  have hD : va_D A [(mx, .inr (11, [.int 3, .int 3, .ref q17, .int 0, .int 4, .int 0, .int 0, .int 1, .int 0, .int 0, .int 0, .int 0, .null, .null, .null, .null, .null, .null, .int 0, .int 0, .null, .int 0, .null, .null, .int 0, .null, .null, .null, .null])), (q17, .inl (cI, 81, .inl (fun _ => 0))), (q35, .inl (cI, 40, .inl (fun _ => 0)))] := hD
  refine W.widen (k := 2) (n := 121) (Nat.le_of_ble_eq_true rfl) (Nat.le_of_ble_eq_true rfl) ?_
  refine va_putF (D := D) (ci := 11) (v := .ref q35) (ty := .array .int) (C := RX11) (T := TX11) (N := 29) hx hb hts iw_X11_init_X11 tyX11 tyX11_ok nmX11 hown hK hP hD hS 0 rfl rfl 12 (by decide) (hts (.fieldLink RX11 27 "KingTableModel" "kind" "[I") (by decide +kernel)) (fun _ h9 => h9) rfl hnm rfl (by decide +kernel) rfl rfl (Nat.le_of_ble_eq_true rfl) dX11_init_37 (fun H locs hP hD hS => ?_)
  have hP : va_P D vwCl [(mx, .inr (11, [.int 3, .int 3, .ref q17, .int 0, .int 4, .int 0, .int 0, .int 1, .int 0, .int 0, .int 0, .int 0, .ref q35, .null, .null, .null, .null, .null, .int 0, .int 0, .null, .int 0, .null, .null, .int 0, .null, .null, .null, .null])), (q17, .inl (cI, 81, .inl (fun _ => 0))), (q35, .inl (cI, 40, .inl (fun _ => 0)))] H := hP
  have hD : va_D A [(mx, .inr (11, [.int 3, .int 3, .ref q17, .int 0, .int 4, .int 0, .int 0, .int 1, .int 0, .int 0, .int 0, .int 0, .ref q35, .null, .null, .null, .null, .null, .int 0, .int 0, .null, .int 0, .null, .null, .int 0, .null, .null, .null, .null])), (q17, .inl (cI, 81, .inl (fun _ => 0))), (q35, .inl (cI, 40, .inl (fun _ => 0)))] := hD
  refine lv_aload_n hx hb dX11_init_40 rfl (lv_at hl 0 rfl) ?_
  refine lv_bipush (v := 40) hx hb dX11_init_41 (by decide) ?_
  refine kt_newa (atype := .int) (ty := .int) (cA := cI) hx hb (hts (.arrayClass .int) (by decide +kernel)) rfl hK hP hD hS hA 0 rfl (fun _ h => h) (N' := 40) (fun _ => rfl) (by decide) (by decide) (Nat.le_of_ble_eq_true rfl) (Nat.le_of_ble_eq_true rfl) (Nat.le_of_ble_eq_true rfl) dX11_init_43 (fun q43 H hP hD hS => ?_)
  have hP : va_P D vwCl [(mx, .inr (11, [.int 3, .int 3, .ref q17, .int 0, .int 4, .int 0, .int 0, .int 1, .int 0, .int 0, .int 0, .int 0, .ref q35, .null, .null, .null, .null, .null, .int 0, .int 0, .null, .int 0, .null, .null, .int 0, .null, .null, .null, .null])), (q17, .inl (cI, 81, .inl (fun _ => 0))), (q35, .inl (cI, 40, .inl (fun _ => 0))), (q43, .inl (cI, 40, .inl (fun _ => 0)))] H := hP
  have hD : va_D A [(mx, .inr (11, [.int 3, .int 3, .ref q17, .int 0, .int 4, .int 0, .int 0, .int 1, .int 0, .int 0, .int 0, .int 0, .ref q35, .null, .null, .null, .null, .null, .int 0, .int 0, .null, .int 0, .null, .null, .int 0, .null, .null, .null, .null])), (q17, .inl (cI, 81, .inl (fun _ => 0))), (q35, .inl (cI, 40, .inl (fun _ => 0))), (q43, .inl (cI, 40, .inl (fun _ => 0)))] := hD
  refine W.widen (k := 3) (n := 161) (Nat.le_of_ble_eq_true rfl) (Nat.le_of_ble_eq_true rfl) ?_
  refine va_putF (D := D) (ci := 11) (v := .ref q43) (ty := .array .int) (C := RX11) (T := TX11) (N := 29) hx hb hts iw_X11_init_X11 tyX11 tyX11_ok nmX11 hown hK hP hD hS 0 rfl rfl 13 (by decide) (hts (.fieldLink RX11 30 "KingTableModel" "at" "[I") (by decide +kernel)) (fun _ h9 => h9) rfl hnm rfl (by decide +kernel) rfl rfl (Nat.le_of_ble_eq_true rfl) dX11_init_45 (fun H locs hP hD hS => ?_)
  have hP : va_P D vwCl [(mx, .inr (11, [.int 3, .int 3, .ref q17, .int 0, .int 4, .int 0, .int 0, .int 1, .int 0, .int 0, .int 0, .int 0, .ref q35, .ref q43, .null, .null, .null, .null, .int 0, .int 0, .null, .int 0, .null, .null, .int 0, .null, .null, .null, .null])), (q17, .inl (cI, 81, .inl (fun _ => 0))), (q35, .inl (cI, 40, .inl (fun _ => 0))), (q43, .inl (cI, 40, .inl (fun _ => 0)))] H := hP
  have hD : va_D A [(mx, .inr (11, [.int 3, .int 3, .ref q17, .int 0, .int 4, .int 0, .int 0, .int 1, .int 0, .int 0, .int 0, .int 0, .ref q35, .ref q43, .null, .null, .null, .null, .int 0, .int 0, .null, .int 0, .null, .null, .int 0, .null, .null, .null, .null])), (q17, .inl (cI, 81, .inl (fun _ => 0))), (q35, .inl (cI, 40, .inl (fun _ => 0))), (q43, .inl (cI, 40, .inl (fun _ => 0)))] := hD
  refine lv_aload_n hx hb dX11_init_48 rfl (lv_at hl 0 rfl) ?_
  refine lv_bipush (v := 81) hx hb dX11_init_49 (by decide) ?_
  refine kt_newa (atype := .int) (ty := .int) (cA := cI) hx hb (hts (.arrayClass .int) (by decide +kernel)) rfl hK hP hD hS hA 0 rfl (fun _ h => h) (N' := 81) (fun _ => rfl) (by decide) (by decide) (Nat.le_of_ble_eq_true rfl) (Nat.le_of_ble_eq_true rfl) (Nat.le_of_ble_eq_true rfl) dX11_init_51 (fun q51 H hP hD hS => ?_)
  have hP : va_P D vwCl [(mx, .inr (11, [.int 3, .int 3, .ref q17, .int 0, .int 4, .int 0, .int 0, .int 1, .int 0, .int 0, .int 0, .int 0, .ref q35, .ref q43, .null, .null, .null, .null, .int 0, .int 0, .null, .int 0, .null, .null, .int 0, .null, .null, .null, .null])), (q17, .inl (cI, 81, .inl (fun _ => 0))), (q35, .inl (cI, 40, .inl (fun _ => 0))), (q43, .inl (cI, 40, .inl (fun _ => 0))), (q51, .inl (cI, 81, .inl (fun _ => 0)))] H := hP
  have hD : va_D A [(mx, .inr (11, [.int 3, .int 3, .ref q17, .int 0, .int 4, .int 0, .int 0, .int 1, .int 0, .int 0, .int 0, .int 0, .ref q35, .ref q43, .null, .null, .null, .null, .int 0, .int 0, .null, .int 0, .null, .null, .int 0, .null, .null, .null, .null])), (q17, .inl (cI, 81, .inl (fun _ => 0))), (q35, .inl (cI, 40, .inl (fun _ => 0))), (q43, .inl (cI, 40, .inl (fun _ => 0))), (q51, .inl (cI, 81, .inl (fun _ => 0)))] := hD
  refine W.widen (k := 4) (n := 242) (Nat.le_of_ble_eq_true rfl) (Nat.le_of_ble_eq_true rfl) ?_
  refine va_putF (D := D) (ci := 11) (v := .ref q51) (ty := .array .int) (C := RX11) (T := TX11) (N := 29) hx hb hts iw_X11_init_X11 tyX11 tyX11_ok nmX11 hown hK hP hD hS 0 rfl rfl 14 (by decide) (hts (.fieldLink RX11 33 "KingTableModel" "on" "[I") (by decide +kernel)) (fun _ h9 => h9) rfl hnm rfl (by decide +kernel) rfl rfl (Nat.le_of_ble_eq_true rfl) dX11_init_53 (fun H locs hP hD hS => ?_)
  have hP : va_P D vwCl [(mx, .inr (11, [.int 3, .int 3, .ref q17, .int 0, .int 4, .int 0, .int 0, .int 1, .int 0, .int 0, .int 0, .int 0, .ref q35, .ref q43, .ref q51, .null, .null, .null, .int 0, .int 0, .null, .int 0, .null, .null, .int 0, .null, .null, .null, .null])), (q17, .inl (cI, 81, .inl (fun _ => 0))), (q35, .inl (cI, 40, .inl (fun _ => 0))), (q43, .inl (cI, 40, .inl (fun _ => 0))), (q51, .inl (cI, 81, .inl (fun _ => 0)))] H := hP
  have hD : va_D A [(mx, .inr (11, [.int 3, .int 3, .ref q17, .int 0, .int 4, .int 0, .int 0, .int 1, .int 0, .int 0, .int 0, .int 0, .ref q35, .ref q43, .ref q51, .null, .null, .null, .int 0, .int 0, .null, .int 0, .null, .null, .int 0, .null, .null, .null, .null])), (q17, .inl (cI, 81, .inl (fun _ => 0))), (q35, .inl (cI, 40, .inl (fun _ => 0))), (q43, .inl (cI, 40, .inl (fun _ => 0))), (q51, .inl (cI, 81, .inl (fun _ => 0)))] := hD
  refine lv_aload_n hx hb dX11_init_56 rfl (lv_at hl 0 rfl) ?_
  refine lv_bipush (v := 81) hx hb dX11_init_57 (by decide) ?_
  refine kt_newa (atype := .int) (ty := .int) (cA := cI) hx hb (hts (.arrayClass .int) (by decide +kernel)) rfl hK hP hD hS hA 0 rfl (fun _ h => h) (N' := 81) (fun _ => rfl) (by decide) (by decide) (Nat.le_of_ble_eq_true rfl) (Nat.le_of_ble_eq_true rfl) (Nat.le_of_ble_eq_true rfl) dX11_init_59 (fun q59 H hP hD hS => ?_)
  have hP : va_P D vwCl [(mx, .inr (11, [.int 3, .int 3, .ref q17, .int 0, .int 4, .int 0, .int 0, .int 1, .int 0, .int 0, .int 0, .int 0, .ref q35, .ref q43, .ref q51, .null, .null, .null, .int 0, .int 0, .null, .int 0, .null, .null, .int 0, .null, .null, .null, .null])), (q17, .inl (cI, 81, .inl (fun _ => 0))), (q35, .inl (cI, 40, .inl (fun _ => 0))), (q43, .inl (cI, 40, .inl (fun _ => 0))), (q51, .inl (cI, 81, .inl (fun _ => 0))), (q59, .inl (cI, 81, .inl (fun _ => 0)))] H := hP
  have hD : va_D A [(mx, .inr (11, [.int 3, .int 3, .ref q17, .int 0, .int 4, .int 0, .int 0, .int 1, .int 0, .int 0, .int 0, .int 0, .ref q35, .ref q43, .ref q51, .null, .null, .null, .int 0, .int 0, .null, .int 0, .null, .null, .int 0, .null, .null, .null, .null])), (q17, .inl (cI, 81, .inl (fun _ => 0))), (q35, .inl (cI, 40, .inl (fun _ => 0))), (q43, .inl (cI, 40, .inl (fun _ => 0))), (q51, .inl (cI, 81, .inl (fun _ => 0))), (q59, .inl (cI, 81, .inl (fun _ => 0)))] := hD
  refine W.widen (k := 5) (n := 323) (Nat.le_of_ble_eq_true rfl) (Nat.le_of_ble_eq_true rfl) ?_
  refine va_putF (D := D) (ci := 11) (v := .ref q59) (ty := .array .int) (C := RX11) (T := TX11) (N := 29) hx hb hts iw_X11_init_X11 tyX11 tyX11_ok nmX11 hown hK hP hD hS 0 rfl rfl 15 (by decide) (hts (.fieldLink RX11 36 "KingTableModel" "ground" "[I") (by decide +kernel)) (fun _ h9 => h9) rfl hnm rfl (by decide +kernel) rfl rfl (Nat.le_of_ble_eq_true rfl) dX11_init_61 (fun H locs hP hD hS => ?_)
  have hP : va_P D vwCl [(mx, .inr (11, [.int 3, .int 3, .ref q17, .int 0, .int 4, .int 0, .int 0, .int 1, .int 0, .int 0, .int 0, .int 0, .ref q35, .ref q43, .ref q51, .ref q59, .null, .null, .int 0, .int 0, .null, .int 0, .null, .null, .int 0, .null, .null, .null, .null])), (q17, .inl (cI, 81, .inl (fun _ => 0))), (q35, .inl (cI, 40, .inl (fun _ => 0))), (q43, .inl (cI, 40, .inl (fun _ => 0))), (q51, .inl (cI, 81, .inl (fun _ => 0))), (q59, .inl (cI, 81, .inl (fun _ => 0)))] H := hP
  have hD : va_D A [(mx, .inr (11, [.int 3, .int 3, .ref q17, .int 0, .int 4, .int 0, .int 0, .int 1, .int 0, .int 0, .int 0, .int 0, .ref q35, .ref q43, .ref q51, .ref q59, .null, .null, .int 0, .int 0, .null, .int 0, .null, .null, .int 0, .null, .null, .null, .null])), (q17, .inl (cI, 81, .inl (fun _ => 0))), (q35, .inl (cI, 40, .inl (fun _ => 0))), (q43, .inl (cI, 40, .inl (fun _ => 0))), (q51, .inl (cI, 81, .inl (fun _ => 0))), (q59, .inl (cI, 81, .inl (fun _ => 0)))] := hD
  refine lv_aload_n hx hb dX11_init_64 rfl (lv_at hl 0 rfl) ?_
  refine lv_sipush (v := 4200) hx hb dX11_init_65 (by decide) ?_
  refine kt_newa (atype := .int) (ty := .int) (cA := cI) hx hb (hts (.arrayClass .int) (by decide +kernel)) rfl hK hP hD hS hA 0 rfl (fun _ h => h) (N' := 4200) (fun _ => rfl) (by decide) (by decide) (Nat.le_of_ble_eq_true rfl) (Nat.le_of_ble_eq_true rfl) (Nat.le_of_ble_eq_true rfl) dX11_init_68 (fun q68 H hP hD hS => ?_)
  have hP : va_P D vwCl [(mx, .inr (11, [.int 3, .int 3, .ref q17, .int 0, .int 4, .int 0, .int 0, .int 1, .int 0, .int 0, .int 0, .int 0, .ref q35, .ref q43, .ref q51, .ref q59, .null, .null, .int 0, .int 0, .null, .int 0, .null, .null, .int 0, .null, .null, .null, .null])), (q17, .inl (cI, 81, .inl (fun _ => 0))), (q35, .inl (cI, 40, .inl (fun _ => 0))), (q43, .inl (cI, 40, .inl (fun _ => 0))), (q51, .inl (cI, 81, .inl (fun _ => 0))), (q59, .inl (cI, 81, .inl (fun _ => 0))), (q68, .inl (cI, 4200, .inl (fun _ => 0)))] H := hP
  have hD : va_D A [(mx, .inr (11, [.int 3, .int 3, .ref q17, .int 0, .int 4, .int 0, .int 0, .int 1, .int 0, .int 0, .int 0, .int 0, .ref q35, .ref q43, .ref q51, .ref q59, .null, .null, .int 0, .int 0, .null, .int 0, .null, .null, .int 0, .null, .null, .null, .null])), (q17, .inl (cI, 81, .inl (fun _ => 0))), (q35, .inl (cI, 40, .inl (fun _ => 0))), (q43, .inl (cI, 40, .inl (fun _ => 0))), (q51, .inl (cI, 81, .inl (fun _ => 0))), (q59, .inl (cI, 81, .inl (fun _ => 0))), (q68, .inl (cI, 4200, .inl (fun _ => 0)))] := hD
  refine W.widen (k := 6) (n := 4523) (Nat.le_of_ble_eq_true rfl) (Nat.le_of_ble_eq_true rfl) ?_
  refine va_putF (D := D) (ci := 11) (v := .ref q68) (ty := .array .int) (C := RX11) (T := TX11) (N := 29) hx hb hts iw_X11_init_X11 tyX11 tyX11_ok nmX11 hown hK hP hD hS 0 rfl rfl 16 (by decide) (hts (.fieldLink RX11 39 "KingTableModel" "moved" "[I") (by decide +kernel)) (fun _ h9 => h9) rfl hnm rfl (by decide +kernel) rfl rfl (Nat.le_of_ble_eq_true rfl) dX11_init_70 (fun H locs hP hD hS => ?_)
  have hP : va_P D vwCl [(mx, .inr (11, [.int 3, .int 3, .ref q17, .int 0, .int 4, .int 0, .int 0, .int 1, .int 0, .int 0, .int 0, .int 0, .ref q35, .ref q43, .ref q51, .ref q59, .ref q68, .null, .int 0, .int 0, .null, .int 0, .null, .null, .int 0, .null, .null, .null, .null])), (q17, .inl (cI, 81, .inl (fun _ => 0))), (q35, .inl (cI, 40, .inl (fun _ => 0))), (q43, .inl (cI, 40, .inl (fun _ => 0))), (q51, .inl (cI, 81, .inl (fun _ => 0))), (q59, .inl (cI, 81, .inl (fun _ => 0))), (q68, .inl (cI, 4200, .inl (fun _ => 0)))] H := hP
  have hD : va_D A [(mx, .inr (11, [.int 3, .int 3, .ref q17, .int 0, .int 4, .int 0, .int 0, .int 1, .int 0, .int 0, .int 0, .int 0, .ref q35, .ref q43, .ref q51, .ref q59, .ref q68, .null, .int 0, .int 0, .null, .int 0, .null, .null, .int 0, .null, .null, .null, .null])), (q17, .inl (cI, 81, .inl (fun _ => 0))), (q35, .inl (cI, 40, .inl (fun _ => 0))), (q43, .inl (cI, 40, .inl (fun _ => 0))), (q51, .inl (cI, 81, .inl (fun _ => 0))), (q59, .inl (cI, 81, .inl (fun _ => 0))), (q68, .inl (cI, 4200, .inl (fun _ => 0)))] := hD
  refine lv_aload_n hx hb dX11_init_73 rfl (lv_at hl 0 rfl) ?_
  refine lv_ldc hx hb hown (hts (.constant RX11 42 (172241)) (by decide +kernel)) dX11_init_74 ?_
  refine kt_newa (atype := .byte) (ty := .byte) (cA := cB) hx hb (hts (.arrayClass .byte) (by decide +kernel)) rfl hK hP hD hS hA 2 rfl (fun _ h => h) (N' := 172241) (fun _ => rfl) (by decide) (by decide) (Nat.le_of_ble_eq_true rfl) (Nat.le_of_ble_eq_true rfl) (Nat.le_of_ble_eq_true rfl) dX11_init_76 (fun q76 H hP hD hS => ?_)
  have hP : va_P D vwCl [(mx, .inr (11, [.int 3, .int 3, .ref q17, .int 0, .int 4, .int 0, .int 0, .int 1, .int 0, .int 0, .int 0, .int 0, .ref q35, .ref q43, .ref q51, .ref q59, .ref q68, .null, .int 0, .int 0, .null, .int 0, .null, .null, .int 0, .null, .null, .null, .null])), (q17, .inl (cI, 81, .inl (fun _ => 0))), (q35, .inl (cI, 40, .inl (fun _ => 0))), (q43, .inl (cI, 40, .inl (fun _ => 0))), (q51, .inl (cI, 81, .inl (fun _ => 0))), (q59, .inl (cI, 81, .inl (fun _ => 0))), (q68, .inl (cI, 4200, .inl (fun _ => 0))), (q76, .inl (cB, 172241, .inl (fun _ => 0)))] H := hP
  have hD : va_D A [(mx, .inr (11, [.int 3, .int 3, .ref q17, .int 0, .int 4, .int 0, .int 0, .int 1, .int 0, .int 0, .int 0, .int 0, .ref q35, .ref q43, .ref q51, .ref q59, .ref q68, .null, .int 0, .int 0, .null, .int 0, .null, .null, .int 0, .null, .null, .null, .null])), (q17, .inl (cI, 81, .inl (fun _ => 0))), (q35, .inl (cI, 40, .inl (fun _ => 0))), (q43, .inl (cI, 40, .inl (fun _ => 0))), (q51, .inl (cI, 81, .inl (fun _ => 0))), (q59, .inl (cI, 81, .inl (fun _ => 0))), (q68, .inl (cI, 4200, .inl (fun _ => 0))), (q76, .inl (cB, 172241, .inl (fun _ => 0)))] := hD
  refine W.widen (k := 7) (n := 176764) (Nat.le_of_ble_eq_true rfl) (Nat.le_of_ble_eq_true rfl) ?_
  refine va_putF (D := D) (ci := 11) (v := .ref q76) (ty := .array .byte) (C := RX11) (T := TX11) (N := 29) hx hb hts iw_X11_init_X11 tyX11 tyX11_ok nmX11 hown hK hP hD hS 0 rfl rfl 17 (by decide) (hts (.fieldLink RX11 43 "KingTableModel" "stood" "[B") (by decide +kernel)) (fun _ h9 => h9) rfl hnm rfl (by decide +kernel) rfl rfl (Nat.le_of_ble_eq_true rfl) dX11_init_78 (fun H locs hP hD hS => ?_)
  have hP : va_P D vwCl [(mx, .inr (11, [.int 3, .int 3, .ref q17, .int 0, .int 4, .int 0, .int 0, .int 1, .int 0, .int 0, .int 0, .int 0, .ref q35, .ref q43, .ref q51, .ref q59, .ref q68, .ref q76, .int 0, .int 0, .null, .int 0, .null, .null, .int 0, .null, .null, .null, .null])), (q17, .inl (cI, 81, .inl (fun _ => 0))), (q35, .inl (cI, 40, .inl (fun _ => 0))), (q43, .inl (cI, 40, .inl (fun _ => 0))), (q51, .inl (cI, 81, .inl (fun _ => 0))), (q59, .inl (cI, 81, .inl (fun _ => 0))), (q68, .inl (cI, 4200, .inl (fun _ => 0))), (q76, .inl (cB, 172241, .inl (fun _ => 0)))] H := hP
  have hD : va_D A [(mx, .inr (11, [.int 3, .int 3, .ref q17, .int 0, .int 4, .int 0, .int 0, .int 1, .int 0, .int 0, .int 0, .int 0, .ref q35, .ref q43, .ref q51, .ref q59, .ref q68, .ref q76, .int 0, .int 0, .null, .int 0, .null, .null, .int 0, .null, .null, .null, .null])), (q17, .inl (cI, 81, .inl (fun _ => 0))), (q35, .inl (cI, 40, .inl (fun _ => 0))), (q43, .inl (cI, 40, .inl (fun _ => 0))), (q51, .inl (cI, 81, .inl (fun _ => 0))), (q59, .inl (cI, 81, .inl (fun _ => 0))), (q68, .inl (cI, 4200, .inl (fun _ => 0))), (q76, .inl (cB, 172241, .inl (fun _ => 0)))] := hD
  refine lv_aload_n hx hb dX11_init_81 rfl (lv_at hl 0 rfl) ?_
  refine lv_bipush (v := 40) hx hb dX11_init_82 (by decide) ?_
  refine kt_newa (atype := .boolean) (ty := .boolean) (cA := cZ) hx hb (hts (.arrayClass .boolean) (by decide +kernel)) rfl hK hP hD hS hA 1 rfl (fun _ h => h) (N' := 40) (fun _ => rfl) (by decide) (by decide) (Nat.le_of_ble_eq_true rfl) (Nat.le_of_ble_eq_true rfl) (Nat.le_of_ble_eq_true rfl) dX11_init_84 (fun q84 H hP hD hS => ?_)
  have hP : va_P D vwCl [(mx, .inr (11, [.int 3, .int 3, .ref q17, .int 0, .int 4, .int 0, .int 0, .int 1, .int 0, .int 0, .int 0, .int 0, .ref q35, .ref q43, .ref q51, .ref q59, .ref q68, .ref q76, .int 0, .int 0, .null, .int 0, .null, .null, .int 0, .null, .null, .null, .null])), (q17, .inl (cI, 81, .inl (fun _ => 0))), (q35, .inl (cI, 40, .inl (fun _ => 0))), (q43, .inl (cI, 40, .inl (fun _ => 0))), (q51, .inl (cI, 81, .inl (fun _ => 0))), (q59, .inl (cI, 81, .inl (fun _ => 0))), (q68, .inl (cI, 4200, .inl (fun _ => 0))), (q76, .inl (cB, 172241, .inl (fun _ => 0))), (q84, .inl (cZ, 40, .inl (fun _ => 0)))] H := hP
  have hD : va_D A [(mx, .inr (11, [.int 3, .int 3, .ref q17, .int 0, .int 4, .int 0, .int 0, .int 1, .int 0, .int 0, .int 0, .int 0, .ref q35, .ref q43, .ref q51, .ref q59, .ref q68, .ref q76, .int 0, .int 0, .null, .int 0, .null, .null, .int 0, .null, .null, .null, .null])), (q17, .inl (cI, 81, .inl (fun _ => 0))), (q35, .inl (cI, 40, .inl (fun _ => 0))), (q43, .inl (cI, 40, .inl (fun _ => 0))), (q51, .inl (cI, 81, .inl (fun _ => 0))), (q59, .inl (cI, 81, .inl (fun _ => 0))), (q68, .inl (cI, 4200, .inl (fun _ => 0))), (q76, .inl (cB, 172241, .inl (fun _ => 0))), (q84, .inl (cZ, 40, .inl (fun _ => 0)))] := hD
  refine W.widen (k := 8) (n := 176804) (Nat.le_of_ble_eq_true rfl) (Nat.le_of_ble_eq_true rfl) ?_
  refine va_putF (D := D) (ci := 11) (v := .ref q84) (ty := .array .boolean) (C := RX11) (T := TX11) (N := 29) hx hb hts iw_X11_init_X11 tyX11 tyX11_ok nmX11 hown hK hP hD hS 0 rfl rfl 20 (by decide) (hts (.fieldLink RX11 47 "KingTableModel" "taken" "[Z") (by decide +kernel)) (fun _ h9 => h9) rfl hnm rfl (by decide +kernel) rfl rfl (Nat.le_of_ble_eq_true rfl) dX11_init_86 (fun H locs hP hD hS => ?_)
  have hP : va_P D vwCl [(mx, .inr (11, [.int 3, .int 3, .ref q17, .int 0, .int 4, .int 0, .int 0, .int 1, .int 0, .int 0, .int 0, .int 0, .ref q35, .ref q43, .ref q51, .ref q59, .ref q68, .ref q76, .int 0, .int 0, .ref q84, .int 0, .null, .null, .int 0, .null, .null, .null, .null])), (q17, .inl (cI, 81, .inl (fun _ => 0))), (q35, .inl (cI, 40, .inl (fun _ => 0))), (q43, .inl (cI, 40, .inl (fun _ => 0))), (q51, .inl (cI, 81, .inl (fun _ => 0))), (q59, .inl (cI, 81, .inl (fun _ => 0))), (q68, .inl (cI, 4200, .inl (fun _ => 0))), (q76, .inl (cB, 172241, .inl (fun _ => 0))), (q84, .inl (cZ, 40, .inl (fun _ => 0)))] H := hP
  have hD : va_D A [(mx, .inr (11, [.int 3, .int 3, .ref q17, .int 0, .int 4, .int 0, .int 0, .int 1, .int 0, .int 0, .int 0, .int 0, .ref q35, .ref q43, .ref q51, .ref q59, .ref q68, .ref q76, .int 0, .int 0, .ref q84, .int 0, .null, .null, .int 0, .null, .null, .null, .null])), (q17, .inl (cI, 81, .inl (fun _ => 0))), (q35, .inl (cI, 40, .inl (fun _ => 0))), (q43, .inl (cI, 40, .inl (fun _ => 0))), (q51, .inl (cI, 81, .inl (fun _ => 0))), (q59, .inl (cI, 81, .inl (fun _ => 0))), (q68, .inl (cI, 4200, .inl (fun _ => 0))), (q76, .inl (cB, 172241, .inl (fun _ => 0))), (q84, .inl (cZ, 40, .inl (fun _ => 0)))] := hD
  refine lv_aload_n hx hb dX11_init_89 rfl (lv_at hl 0 rfl) ?_
  refine lv_bipush (v := 81) hx hb dX11_init_90 (by decide) ?_
  refine kt_newa (atype := .boolean) (ty := .boolean) (cA := cZ) hx hb (hts (.arrayClass .boolean) (by decide +kernel)) rfl hK hP hD hS hA 1 rfl (fun _ h => h) (N' := 81) (fun _ => rfl) (by decide) (by decide) (Nat.le_of_ble_eq_true rfl) (Nat.le_of_ble_eq_true rfl) (Nat.le_of_ble_eq_true rfl) dX11_init_92 (fun q92 H hP hD hS => ?_)
  have hP : va_P D vwCl [(mx, .inr (11, [.int 3, .int 3, .ref q17, .int 0, .int 4, .int 0, .int 0, .int 1, .int 0, .int 0, .int 0, .int 0, .ref q35, .ref q43, .ref q51, .ref q59, .ref q68, .ref q76, .int 0, .int 0, .ref q84, .int 0, .null, .null, .int 0, .null, .null, .null, .null])), (q17, .inl (cI, 81, .inl (fun _ => 0))), (q35, .inl (cI, 40, .inl (fun _ => 0))), (q43, .inl (cI, 40, .inl (fun _ => 0))), (q51, .inl (cI, 81, .inl (fun _ => 0))), (q59, .inl (cI, 81, .inl (fun _ => 0))), (q68, .inl (cI, 4200, .inl (fun _ => 0))), (q76, .inl (cB, 172241, .inl (fun _ => 0))), (q84, .inl (cZ, 40, .inl (fun _ => 0))), (q92, .inl (cZ, 81, .inl (fun _ => 0)))] H := hP
  have hD : va_D A [(mx, .inr (11, [.int 3, .int 3, .ref q17, .int 0, .int 4, .int 0, .int 0, .int 1, .int 0, .int 0, .int 0, .int 0, .ref q35, .ref q43, .ref q51, .ref q59, .ref q68, .ref q76, .int 0, .int 0, .ref q84, .int 0, .null, .null, .int 0, .null, .null, .null, .null])), (q17, .inl (cI, 81, .inl (fun _ => 0))), (q35, .inl (cI, 40, .inl (fun _ => 0))), (q43, .inl (cI, 40, .inl (fun _ => 0))), (q51, .inl (cI, 81, .inl (fun _ => 0))), (q59, .inl (cI, 81, .inl (fun _ => 0))), (q68, .inl (cI, 4200, .inl (fun _ => 0))), (q76, .inl (cB, 172241, .inl (fun _ => 0))), (q84, .inl (cZ, 40, .inl (fun _ => 0))), (q92, .inl (cZ, 81, .inl (fun _ => 0)))] := hD
  refine W.widen (k := 9) (n := 176885) (Nat.le_of_ble_eq_true rfl) (Nat.le_of_ble_eq_true rfl) ?_
  refine va_putF (D := D) (ci := 11) (v := .ref q92) (ty := .array .boolean) (C := RX11) (T := TX11) (N := 29) hx hb hts iw_X11_init_X11 tyX11 tyX11_ok nmX11 hown hK hP hD hS 0 rfl rfl 22 (by decide) (hts (.fieldLink RX11 51 "KingTableModel" "met" "[Z") (by decide +kernel)) (fun _ h9 => h9) rfl hnm rfl (by decide +kernel) rfl rfl (Nat.le_of_ble_eq_true rfl) dX11_init_94 (fun H locs hP hD hS => ?_)
  have hP : va_P D vwCl [(mx, .inr (11, [.int 3, .int 3, .ref q17, .int 0, .int 4, .int 0, .int 0, .int 1, .int 0, .int 0, .int 0, .int 0, .ref q35, .ref q43, .ref q51, .ref q59, .ref q68, .ref q76, .int 0, .int 0, .ref q84, .int 0, .ref q92, .null, .int 0, .null, .null, .null, .null])), (q17, .inl (cI, 81, .inl (fun _ => 0))), (q35, .inl (cI, 40, .inl (fun _ => 0))), (q43, .inl (cI, 40, .inl (fun _ => 0))), (q51, .inl (cI, 81, .inl (fun _ => 0))), (q59, .inl (cI, 81, .inl (fun _ => 0))), (q68, .inl (cI, 4200, .inl (fun _ => 0))), (q76, .inl (cB, 172241, .inl (fun _ => 0))), (q84, .inl (cZ, 40, .inl (fun _ => 0))), (q92, .inl (cZ, 81, .inl (fun _ => 0)))] H := hP
  have hD : va_D A [(mx, .inr (11, [.int 3, .int 3, .ref q17, .int 0, .int 4, .int 0, .int 0, .int 1, .int 0, .int 0, .int 0, .int 0, .ref q35, .ref q43, .ref q51, .ref q59, .ref q68, .ref q76, .int 0, .int 0, .ref q84, .int 0, .ref q92, .null, .int 0, .null, .null, .null, .null])), (q17, .inl (cI, 81, .inl (fun _ => 0))), (q35, .inl (cI, 40, .inl (fun _ => 0))), (q43, .inl (cI, 40, .inl (fun _ => 0))), (q51, .inl (cI, 81, .inl (fun _ => 0))), (q59, .inl (cI, 81, .inl (fun _ => 0))), (q68, .inl (cI, 4200, .inl (fun _ => 0))), (q76, .inl (cB, 172241, .inl (fun _ => 0))), (q84, .inl (cZ, 40, .inl (fun _ => 0))), (q92, .inl (cZ, 81, .inl (fun _ => 0)))] := hD
  refine lv_aload_n hx hb dX11_init_97 rfl (lv_at hl 0 rfl) ?_
  refine lv_bipush (v := 81) hx hb dX11_init_98 (by decide) ?_
  refine kt_newa (atype := .int) (ty := .int) (cA := cI) hx hb (hts (.arrayClass .int) (by decide +kernel)) rfl hK hP hD hS hA 0 rfl (fun _ h => h) (N' := 81) (fun _ => rfl) (by decide) (by decide) (Nat.le_of_ble_eq_true rfl) (Nat.le_of_ble_eq_true rfl) (Nat.le_of_ble_eq_true rfl) dX11_init_100 (fun q100 H hP hD hS => ?_)
  have hP : va_P D vwCl [(mx, .inr (11, [.int 3, .int 3, .ref q17, .int 0, .int 4, .int 0, .int 0, .int 1, .int 0, .int 0, .int 0, .int 0, .ref q35, .ref q43, .ref q51, .ref q59, .ref q68, .ref q76, .int 0, .int 0, .ref q84, .int 0, .ref q92, .null, .int 0, .null, .null, .null, .null])), (q17, .inl (cI, 81, .inl (fun _ => 0))), (q35, .inl (cI, 40, .inl (fun _ => 0))), (q43, .inl (cI, 40, .inl (fun _ => 0))), (q51, .inl (cI, 81, .inl (fun _ => 0))), (q59, .inl (cI, 81, .inl (fun _ => 0))), (q68, .inl (cI, 4200, .inl (fun _ => 0))), (q76, .inl (cB, 172241, .inl (fun _ => 0))), (q84, .inl (cZ, 40, .inl (fun _ => 0))), (q92, .inl (cZ, 81, .inl (fun _ => 0))), (q100, .inl (cI, 81, .inl (fun _ => 0)))] H := hP
  have hD : va_D A [(mx, .inr (11, [.int 3, .int 3, .ref q17, .int 0, .int 4, .int 0, .int 0, .int 1, .int 0, .int 0, .int 0, .int 0, .ref q35, .ref q43, .ref q51, .ref q59, .ref q68, .ref q76, .int 0, .int 0, .ref q84, .int 0, .ref q92, .null, .int 0, .null, .null, .null, .null])), (q17, .inl (cI, 81, .inl (fun _ => 0))), (q35, .inl (cI, 40, .inl (fun _ => 0))), (q43, .inl (cI, 40, .inl (fun _ => 0))), (q51, .inl (cI, 81, .inl (fun _ => 0))), (q59, .inl (cI, 81, .inl (fun _ => 0))), (q68, .inl (cI, 4200, .inl (fun _ => 0))), (q76, .inl (cB, 172241, .inl (fun _ => 0))), (q84, .inl (cZ, 40, .inl (fun _ => 0))), (q92, .inl (cZ, 81, .inl (fun _ => 0))), (q100, .inl (cI, 81, .inl (fun _ => 0)))] := hD
  refine W.widen (k := 10) (n := 176966) (Nat.le_of_ble_eq_true rfl) (Nat.le_of_ble_eq_true rfl) ?_
  refine va_putF (D := D) (ci := 11) (v := .ref q100) (ty := .array .int) (C := RX11) (T := TX11) (N := 29) hx hb hts iw_X11_init_X11 tyX11 tyX11_ok nmX11 hown hK hP hD hS 0 rfl rfl 23 (by decide) (hts (.fieldLink RX11 54 "KingTableModel" "queue" "[I") (by decide +kernel)) (fun _ h9 => h9) rfl hnm rfl (by decide +kernel) rfl rfl (Nat.le_of_ble_eq_true rfl) dX11_init_102 (fun H locs hP hD hS => ?_)
  have hP : va_P D vwCl [(mx, .inr (11, [.int 3, .int 3, .ref q17, .int 0, .int 4, .int 0, .int 0, .int 1, .int 0, .int 0, .int 0, .int 0, .ref q35, .ref q43, .ref q51, .ref q59, .ref q68, .ref q76, .int 0, .int 0, .ref q84, .int 0, .ref q92, .ref q100, .int 0, .null, .null, .null, .null])), (q17, .inl (cI, 81, .inl (fun _ => 0))), (q35, .inl (cI, 40, .inl (fun _ => 0))), (q43, .inl (cI, 40, .inl (fun _ => 0))), (q51, .inl (cI, 81, .inl (fun _ => 0))), (q59, .inl (cI, 81, .inl (fun _ => 0))), (q68, .inl (cI, 4200, .inl (fun _ => 0))), (q76, .inl (cB, 172241, .inl (fun _ => 0))), (q84, .inl (cZ, 40, .inl (fun _ => 0))), (q92, .inl (cZ, 81, .inl (fun _ => 0))), (q100, .inl (cI, 81, .inl (fun _ => 0)))] H := hP
  have hD : va_D A [(mx, .inr (11, [.int 3, .int 3, .ref q17, .int 0, .int 4, .int 0, .int 0, .int 1, .int 0, .int 0, .int 0, .int 0, .ref q35, .ref q43, .ref q51, .ref q59, .ref q68, .ref q76, .int 0, .int 0, .ref q84, .int 0, .ref q92, .ref q100, .int 0, .null, .null, .null, .null])), (q17, .inl (cI, 81, .inl (fun _ => 0))), (q35, .inl (cI, 40, .inl (fun _ => 0))), (q43, .inl (cI, 40, .inl (fun _ => 0))), (q51, .inl (cI, 81, .inl (fun _ => 0))), (q59, .inl (cI, 81, .inl (fun _ => 0))), (q68, .inl (cI, 4200, .inl (fun _ => 0))), (q76, .inl (cB, 172241, .inl (fun _ => 0))), (q84, .inl (cZ, 40, .inl (fun _ => 0))), (q92, .inl (cZ, 81, .inl (fun _ => 0))), (q100, .inl (cI, 81, .inl (fun _ => 0)))] := hD
  refine lv_aload_n hx hb dX11_init_105 rfl (lv_at hl 0 rfl) ?_
  refine lv_sipush (v := 10000) hx hb dX11_init_106 (by decide) ?_
  refine kt_newa (atype := .int) (ty := .int) (cA := cI) hx hb (hts (.arrayClass .int) (by decide +kernel)) rfl hK hP hD hS hA 0 rfl (fun _ h => h) (N' := 10000) (fun _ => rfl) (by decide) (by decide) (Nat.le_of_ble_eq_true rfl) (Nat.le_of_ble_eq_true rfl) (Nat.le_of_ble_eq_true rfl) dX11_init_109 (fun q109 H hP hD hS => ?_)
  have hP : va_P D vwCl [(mx, .inr (11, [.int 3, .int 3, .ref q17, .int 0, .int 4, .int 0, .int 0, .int 1, .int 0, .int 0, .int 0, .int 0, .ref q35, .ref q43, .ref q51, .ref q59, .ref q68, .ref q76, .int 0, .int 0, .ref q84, .int 0, .ref q92, .ref q100, .int 0, .null, .null, .null, .null])), (q17, .inl (cI, 81, .inl (fun _ => 0))), (q35, .inl (cI, 40, .inl (fun _ => 0))), (q43, .inl (cI, 40, .inl (fun _ => 0))), (q51, .inl (cI, 81, .inl (fun _ => 0))), (q59, .inl (cI, 81, .inl (fun _ => 0))), (q68, .inl (cI, 4200, .inl (fun _ => 0))), (q76, .inl (cB, 172241, .inl (fun _ => 0))), (q84, .inl (cZ, 40, .inl (fun _ => 0))), (q92, .inl (cZ, 81, .inl (fun _ => 0))), (q100, .inl (cI, 81, .inl (fun _ => 0))), (q109, .inl (cI, 10000, .inl (fun _ => 0)))] H := hP
  have hD : va_D A [(mx, .inr (11, [.int 3, .int 3, .ref q17, .int 0, .int 4, .int 0, .int 0, .int 1, .int 0, .int 0, .int 0, .int 0, .ref q35, .ref q43, .ref q51, .ref q59, .ref q68, .ref q76, .int 0, .int 0, .ref q84, .int 0, .ref q92, .ref q100, .int 0, .null, .null, .null, .null])), (q17, .inl (cI, 81, .inl (fun _ => 0))), (q35, .inl (cI, 40, .inl (fun _ => 0))), (q43, .inl (cI, 40, .inl (fun _ => 0))), (q51, .inl (cI, 81, .inl (fun _ => 0))), (q59, .inl (cI, 81, .inl (fun _ => 0))), (q68, .inl (cI, 4200, .inl (fun _ => 0))), (q76, .inl (cB, 172241, .inl (fun _ => 0))), (q84, .inl (cZ, 40, .inl (fun _ => 0))), (q92, .inl (cZ, 81, .inl (fun _ => 0))), (q100, .inl (cI, 81, .inl (fun _ => 0))), (q109, .inl (cI, 10000, .inl (fun _ => 0)))] := hD
  refine W.widen (k := 11) (n := 186966) (Nat.le_of_ble_eq_true rfl) (Nat.le_of_ble_eq_true rfl) ?_
  refine va_putF (D := D) (ci := 11) (v := .ref q109) (ty := .array .int) (C := RX11) (T := TX11) (N := 29) hx hb hts iw_X11_init_X11 tyX11 tyX11_ok nmX11 hown hK hP hD hS 0 rfl rfl 25 (by decide) (hts (.fieldLink RX11 57 "KingTableModel" "worths" "[I") (by decide +kernel)) (fun _ h9 => h9) rfl hnm rfl (by decide +kernel) rfl rfl (Nat.le_of_ble_eq_true rfl) dX11_init_111 (fun H locs hP hD hS => ?_)
  have hP : va_P D vwCl [(mx, .inr (11, [.int 3, .int 3, .ref q17, .int 0, .int 4, .int 0, .int 0, .int 1, .int 0, .int 0, .int 0, .int 0, .ref q35, .ref q43, .ref q51, .ref q59, .ref q68, .ref q76, .int 0, .int 0, .ref q84, .int 0, .ref q92, .ref q100, .int 0, .ref q109, .null, .null, .null])), (q17, .inl (cI, 81, .inl (fun _ => 0))), (q35, .inl (cI, 40, .inl (fun _ => 0))), (q43, .inl (cI, 40, .inl (fun _ => 0))), (q51, .inl (cI, 81, .inl (fun _ => 0))), (q59, .inl (cI, 81, .inl (fun _ => 0))), (q68, .inl (cI, 4200, .inl (fun _ => 0))), (q76, .inl (cB, 172241, .inl (fun _ => 0))), (q84, .inl (cZ, 40, .inl (fun _ => 0))), (q92, .inl (cZ, 81, .inl (fun _ => 0))), (q100, .inl (cI, 81, .inl (fun _ => 0))), (q109, .inl (cI, 10000, .inl (fun _ => 0)))] H := hP
  have hD : va_D A [(mx, .inr (11, [.int 3, .int 3, .ref q17, .int 0, .int 4, .int 0, .int 0, .int 1, .int 0, .int 0, .int 0, .int 0, .ref q35, .ref q43, .ref q51, .ref q59, .ref q68, .ref q76, .int 0, .int 0, .ref q84, .int 0, .ref q92, .ref q100, .int 0, .ref q109, .null, .null, .null])), (q17, .inl (cI, 81, .inl (fun _ => 0))), (q35, .inl (cI, 40, .inl (fun _ => 0))), (q43, .inl (cI, 40, .inl (fun _ => 0))), (q51, .inl (cI, 81, .inl (fun _ => 0))), (q59, .inl (cI, 81, .inl (fun _ => 0))), (q68, .inl (cI, 4200, .inl (fun _ => 0))), (q76, .inl (cB, 172241, .inl (fun _ => 0))), (q84, .inl (cZ, 40, .inl (fun _ => 0))), (q92, .inl (cZ, 81, .inl (fun _ => 0))), (q100, .inl (cI, 81, .inl (fun _ => 0))), (q109, .inl (cI, 10000, .inl (fun _ => 0)))] := hD
  refine lv_aload_n hx hb dX11_init_114 rfl (lv_at hl 0 rfl) ?_
  refine lv_sipush (v := 10000) hx hb dX11_init_115 (by decide) ?_
  refine kt_newa (atype := .int) (ty := .int) (cA := cI) hx hb (hts (.arrayClass .int) (by decide +kernel)) rfl hK hP hD hS hA 0 rfl (fun _ h => h) (N' := 10000) (fun _ => rfl) (by decide) (by decide) (Nat.le_of_ble_eq_true rfl) (Nat.le_of_ble_eq_true rfl) (Nat.le_of_ble_eq_true rfl) dX11_init_118 (fun q118 H hP hD hS => ?_)
  have hP : va_P D vwCl [(mx, .inr (11, [.int 3, .int 3, .ref q17, .int 0, .int 4, .int 0, .int 0, .int 1, .int 0, .int 0, .int 0, .int 0, .ref q35, .ref q43, .ref q51, .ref q59, .ref q68, .ref q76, .int 0, .int 0, .ref q84, .int 0, .ref q92, .ref q100, .int 0, .ref q109, .null, .null, .null])), (q17, .inl (cI, 81, .inl (fun _ => 0))), (q35, .inl (cI, 40, .inl (fun _ => 0))), (q43, .inl (cI, 40, .inl (fun _ => 0))), (q51, .inl (cI, 81, .inl (fun _ => 0))), (q59, .inl (cI, 81, .inl (fun _ => 0))), (q68, .inl (cI, 4200, .inl (fun _ => 0))), (q76, .inl (cB, 172241, .inl (fun _ => 0))), (q84, .inl (cZ, 40, .inl (fun _ => 0))), (q92, .inl (cZ, 81, .inl (fun _ => 0))), (q100, .inl (cI, 81, .inl (fun _ => 0))), (q109, .inl (cI, 10000, .inl (fun _ => 0))), (q118, .inl (cI, 10000, .inl (fun _ => 0)))] H := hP
  have hD : va_D A [(mx, .inr (11, [.int 3, .int 3, .ref q17, .int 0, .int 4, .int 0, .int 0, .int 1, .int 0, .int 0, .int 0, .int 0, .ref q35, .ref q43, .ref q51, .ref q59, .ref q68, .ref q76, .int 0, .int 0, .ref q84, .int 0, .ref q92, .ref q100, .int 0, .ref q109, .null, .null, .null])), (q17, .inl (cI, 81, .inl (fun _ => 0))), (q35, .inl (cI, 40, .inl (fun _ => 0))), (q43, .inl (cI, 40, .inl (fun _ => 0))), (q51, .inl (cI, 81, .inl (fun _ => 0))), (q59, .inl (cI, 81, .inl (fun _ => 0))), (q68, .inl (cI, 4200, .inl (fun _ => 0))), (q76, .inl (cB, 172241, .inl (fun _ => 0))), (q84, .inl (cZ, 40, .inl (fun _ => 0))), (q92, .inl (cZ, 81, .inl (fun _ => 0))), (q100, .inl (cI, 81, .inl (fun _ => 0))), (q109, .inl (cI, 10000, .inl (fun _ => 0))), (q118, .inl (cI, 10000, .inl (fun _ => 0)))] := hD
  refine W.widen (k := 12) (n := 196966) (Nat.le_of_ble_eq_true rfl) (Nat.le_of_ble_eq_true rfl) ?_
  refine va_putF (D := D) (ci := 11) (v := .ref q118) (ty := .array .int) (C := RX11) (T := TX11) (N := 29) hx hb hts iw_X11_init_X11 tyX11 tyX11_ok nmX11 hown hK hP hD hS 0 rfl rfl 26 (by decide) (hts (.fieldLink RX11 60 "KingTableModel" "deeps" "[I") (by decide +kernel)) (fun _ h9 => h9) rfl hnm rfl (by decide +kernel) rfl rfl (Nat.le_of_ble_eq_true rfl) dX11_init_120 (fun H locs hP hD hS => ?_)
  have hP : va_P D vwCl [(mx, .inr (11, [.int 3, .int 3, .ref q17, .int 0, .int 4, .int 0, .int 0, .int 1, .int 0, .int 0, .int 0, .int 0, .ref q35, .ref q43, .ref q51, .ref q59, .ref q68, .ref q76, .int 0, .int 0, .ref q84, .int 0, .ref q92, .ref q100, .int 0, .ref q109, .ref q118, .null, .null])), (q17, .inl (cI, 81, .inl (fun _ => 0))), (q35, .inl (cI, 40, .inl (fun _ => 0))), (q43, .inl (cI, 40, .inl (fun _ => 0))), (q51, .inl (cI, 81, .inl (fun _ => 0))), (q59, .inl (cI, 81, .inl (fun _ => 0))), (q68, .inl (cI, 4200, .inl (fun _ => 0))), (q76, .inl (cB, 172241, .inl (fun _ => 0))), (q84, .inl (cZ, 40, .inl (fun _ => 0))), (q92, .inl (cZ, 81, .inl (fun _ => 0))), (q100, .inl (cI, 81, .inl (fun _ => 0))), (q109, .inl (cI, 10000, .inl (fun _ => 0))), (q118, .inl (cI, 10000, .inl (fun _ => 0)))] H := hP
  have hD : va_D A [(mx, .inr (11, [.int 3, .int 3, .ref q17, .int 0, .int 4, .int 0, .int 0, .int 1, .int 0, .int 0, .int 0, .int 0, .ref q35, .ref q43, .ref q51, .ref q59, .ref q68, .ref q76, .int 0, .int 0, .ref q84, .int 0, .ref q92, .ref q100, .int 0, .ref q109, .ref q118, .null, .null])), (q17, .inl (cI, 81, .inl (fun _ => 0))), (q35, .inl (cI, 40, .inl (fun _ => 0))), (q43, .inl (cI, 40, .inl (fun _ => 0))), (q51, .inl (cI, 81, .inl (fun _ => 0))), (q59, .inl (cI, 81, .inl (fun _ => 0))), (q68, .inl (cI, 4200, .inl (fun _ => 0))), (q76, .inl (cB, 172241, .inl (fun _ => 0))), (q84, .inl (cZ, 40, .inl (fun _ => 0))), (q92, .inl (cZ, 81, .inl (fun _ => 0))), (q100, .inl (cI, 81, .inl (fun _ => 0))), (q109, .inl (cI, 10000, .inl (fun _ => 0))), (q118, .inl (cI, 10000, .inl (fun _ => 0)))] := hD
  refine lv_aload_n hx hb dX11_init_123 rfl (lv_at hl 0 rfl) ?_
  refine lv_sipush (v := 10000) hx hb dX11_init_124 (by decide) ?_
  refine kt_newa (atype := .int) (ty := .int) (cA := cI) hx hb (hts (.arrayClass .int) (by decide +kernel)) rfl hK hP hD hS hA 0 rfl (fun _ h => h) (N' := 10000) (fun _ => rfl) (by decide) (by decide) (Nat.le_of_ble_eq_true rfl) (Nat.le_of_ble_eq_true rfl) (Nat.le_of_ble_eq_true rfl) dX11_init_127 (fun q127 H hP hD hS => ?_)
  have hP : va_P D vwCl [(mx, .inr (11, [.int 3, .int 3, .ref q17, .int 0, .int 4, .int 0, .int 0, .int 1, .int 0, .int 0, .int 0, .int 0, .ref q35, .ref q43, .ref q51, .ref q59, .ref q68, .ref q76, .int 0, .int 0, .ref q84, .int 0, .ref q92, .ref q100, .int 0, .ref q109, .ref q118, .null, .null])), (q17, .inl (cI, 81, .inl (fun _ => 0))), (q35, .inl (cI, 40, .inl (fun _ => 0))), (q43, .inl (cI, 40, .inl (fun _ => 0))), (q51, .inl (cI, 81, .inl (fun _ => 0))), (q59, .inl (cI, 81, .inl (fun _ => 0))), (q68, .inl (cI, 4200, .inl (fun _ => 0))), (q76, .inl (cB, 172241, .inl (fun _ => 0))), (q84, .inl (cZ, 40, .inl (fun _ => 0))), (q92, .inl (cZ, 81, .inl (fun _ => 0))), (q100, .inl (cI, 81, .inl (fun _ => 0))), (q109, .inl (cI, 10000, .inl (fun _ => 0))), (q118, .inl (cI, 10000, .inl (fun _ => 0))), (q127, .inl (cI, 10000, .inl (fun _ => 0)))] H := hP
  have hD : va_D A [(mx, .inr (11, [.int 3, .int 3, .ref q17, .int 0, .int 4, .int 0, .int 0, .int 1, .int 0, .int 0, .int 0, .int 0, .ref q35, .ref q43, .ref q51, .ref q59, .ref q68, .ref q76, .int 0, .int 0, .ref q84, .int 0, .ref q92, .ref q100, .int 0, .ref q109, .ref q118, .null, .null])), (q17, .inl (cI, 81, .inl (fun _ => 0))), (q35, .inl (cI, 40, .inl (fun _ => 0))), (q43, .inl (cI, 40, .inl (fun _ => 0))), (q51, .inl (cI, 81, .inl (fun _ => 0))), (q59, .inl (cI, 81, .inl (fun _ => 0))), (q68, .inl (cI, 4200, .inl (fun _ => 0))), (q76, .inl (cB, 172241, .inl (fun _ => 0))), (q84, .inl (cZ, 40, .inl (fun _ => 0))), (q92, .inl (cZ, 81, .inl (fun _ => 0))), (q100, .inl (cI, 81, .inl (fun _ => 0))), (q109, .inl (cI, 10000, .inl (fun _ => 0))), (q118, .inl (cI, 10000, .inl (fun _ => 0))), (q127, .inl (cI, 10000, .inl (fun _ => 0)))] := hD
  refine W.widen (k := 13) (n := 206966) (Nat.le_of_ble_eq_true rfl) (Nat.le_of_ble_eq_true rfl) ?_
  refine va_putF (D := D) (ci := 11) (v := .ref q127) (ty := .array .int) (C := RX11) (T := TX11) (N := 29) hx hb hts iw_X11_init_X11 tyX11 tyX11_ok nmX11 hown hK hP hD hS 0 rfl rfl 27 (by decide) (hts (.fieldLink RX11 63 "KingTableModel" "first" "[I") (by decide +kernel)) (fun _ h9 => h9) rfl hnm rfl (by decide +kernel) rfl rfl (Nat.le_of_ble_eq_true rfl) dX11_init_129 (fun H locs hP hD hS => ?_)
  have hP : va_P D vwCl [(mx, .inr (11, [.int 3, .int 3, .ref q17, .int 0, .int 4, .int 0, .int 0, .int 1, .int 0, .int 0, .int 0, .int 0, .ref q35, .ref q43, .ref q51, .ref q59, .ref q68, .ref q76, .int 0, .int 0, .ref q84, .int 0, .ref q92, .ref q100, .int 0, .ref q109, .ref q118, .ref q127, .null])), (q17, .inl (cI, 81, .inl (fun _ => 0))), (q35, .inl (cI, 40, .inl (fun _ => 0))), (q43, .inl (cI, 40, .inl (fun _ => 0))), (q51, .inl (cI, 81, .inl (fun _ => 0))), (q59, .inl (cI, 81, .inl (fun _ => 0))), (q68, .inl (cI, 4200, .inl (fun _ => 0))), (q76, .inl (cB, 172241, .inl (fun _ => 0))), (q84, .inl (cZ, 40, .inl (fun _ => 0))), (q92, .inl (cZ, 81, .inl (fun _ => 0))), (q100, .inl (cI, 81, .inl (fun _ => 0))), (q109, .inl (cI, 10000, .inl (fun _ => 0))), (q118, .inl (cI, 10000, .inl (fun _ => 0))), (q127, .inl (cI, 10000, .inl (fun _ => 0)))] H := hP
  have hD : va_D A [(mx, .inr (11, [.int 3, .int 3, .ref q17, .int 0, .int 4, .int 0, .int 0, .int 1, .int 0, .int 0, .int 0, .int 0, .ref q35, .ref q43, .ref q51, .ref q59, .ref q68, .ref q76, .int 0, .int 0, .ref q84, .int 0, .ref q92, .ref q100, .int 0, .ref q109, .ref q118, .ref q127, .null])), (q17, .inl (cI, 81, .inl (fun _ => 0))), (q35, .inl (cI, 40, .inl (fun _ => 0))), (q43, .inl (cI, 40, .inl (fun _ => 0))), (q51, .inl (cI, 81, .inl (fun _ => 0))), (q59, .inl (cI, 81, .inl (fun _ => 0))), (q68, .inl (cI, 4200, .inl (fun _ => 0))), (q76, .inl (cB, 172241, .inl (fun _ => 0))), (q84, .inl (cZ, 40, .inl (fun _ => 0))), (q92, .inl (cZ, 81, .inl (fun _ => 0))), (q100, .inl (cI, 81, .inl (fun _ => 0))), (q109, .inl (cI, 10000, .inl (fun _ => 0))), (q118, .inl (cI, 10000, .inl (fun _ => 0))), (q127, .inl (cI, 10000, .inl (fun _ => 0)))] := hD
  refine lv_aload_n hx hb dX11_init_132 rfl (lv_at hl 0 rfl) ?_
  refine lv_sipush (v := 10000) hx hb dX11_init_133 (by decide) ?_
  refine kt_newa (atype := .int) (ty := .int) (cA := cI) hx hb (hts (.arrayClass .int) (by decide +kernel)) rfl hK hP hD hS hA 0 rfl (fun _ h => h) (N' := 10000) (fun _ => rfl) (by decide) (by decide) (Nat.le_of_ble_eq_true rfl) (Nat.le_of_ble_eq_true rfl) (Nat.le_of_ble_eq_true rfl) dX11_init_136 (fun q136 H hP hD hS => ?_)
  have hP : va_P D vwCl [(mx, .inr (11, [.int 3, .int 3, .ref q17, .int 0, .int 4, .int 0, .int 0, .int 1, .int 0, .int 0, .int 0, .int 0, .ref q35, .ref q43, .ref q51, .ref q59, .ref q68, .ref q76, .int 0, .int 0, .ref q84, .int 0, .ref q92, .ref q100, .int 0, .ref q109, .ref q118, .ref q127, .null])), (q17, .inl (cI, 81, .inl (fun _ => 0))), (q35, .inl (cI, 40, .inl (fun _ => 0))), (q43, .inl (cI, 40, .inl (fun _ => 0))), (q51, .inl (cI, 81, .inl (fun _ => 0))), (q59, .inl (cI, 81, .inl (fun _ => 0))), (q68, .inl (cI, 4200, .inl (fun _ => 0))), (q76, .inl (cB, 172241, .inl (fun _ => 0))), (q84, .inl (cZ, 40, .inl (fun _ => 0))), (q92, .inl (cZ, 81, .inl (fun _ => 0))), (q100, .inl (cI, 81, .inl (fun _ => 0))), (q109, .inl (cI, 10000, .inl (fun _ => 0))), (q118, .inl (cI, 10000, .inl (fun _ => 0))), (q127, .inl (cI, 10000, .inl (fun _ => 0))), (q136, .inl (cI, 10000, .inl (fun _ => 0)))] H := hP
  have hD : va_D A [(mx, .inr (11, [.int 3, .int 3, .ref q17, .int 0, .int 4, .int 0, .int 0, .int 1, .int 0, .int 0, .int 0, .int 0, .ref q35, .ref q43, .ref q51, .ref q59, .ref q68, .ref q76, .int 0, .int 0, .ref q84, .int 0, .ref q92, .ref q100, .int 0, .ref q109, .ref q118, .ref q127, .null])), (q17, .inl (cI, 81, .inl (fun _ => 0))), (q35, .inl (cI, 40, .inl (fun _ => 0))), (q43, .inl (cI, 40, .inl (fun _ => 0))), (q51, .inl (cI, 81, .inl (fun _ => 0))), (q59, .inl (cI, 81, .inl (fun _ => 0))), (q68, .inl (cI, 4200, .inl (fun _ => 0))), (q76, .inl (cB, 172241, .inl (fun _ => 0))), (q84, .inl (cZ, 40, .inl (fun _ => 0))), (q92, .inl (cZ, 81, .inl (fun _ => 0))), (q100, .inl (cI, 81, .inl (fun _ => 0))), (q109, .inl (cI, 10000, .inl (fun _ => 0))), (q118, .inl (cI, 10000, .inl (fun _ => 0))), (q127, .inl (cI, 10000, .inl (fun _ => 0))), (q136, .inl (cI, 10000, .inl (fun _ => 0)))] := hD
  refine W.widen (k := 14) (n := 216966) (Nat.le_of_ble_eq_true rfl) (Nat.le_of_ble_eq_true rfl) ?_
  refine va_putF (D := D) (ci := 11) (v := .ref q136) (ty := .array .int) (C := RX11) (T := TX11) (N := 29) hx hb hts iw_X11_init_X11 tyX11 tyX11_ok nmX11 hown hK hP hD hS 0 rfl rfl 28 (by decide) (hts (.fieldLink RX11 66 "KingTableModel" "fresh" "[I") (by decide +kernel)) (fun _ h9 => h9) rfl hnm rfl (by decide +kernel) rfl rfl (Nat.le_of_ble_eq_true rfl) dX11_init_138 (fun H locs hP hD hS => ?_)
  have hP : va_P D vwCl [(mx, .inr (11, [.int 3, .int 3, .ref q17, .int 0, .int 4, .int 0, .int 0, .int 1, .int 0, .int 0, .int 0, .int 0, .ref q35, .ref q43, .ref q51, .ref q59, .ref q68, .ref q76, .int 0, .int 0, .ref q84, .int 0, .ref q92, .ref q100, .int 0, .ref q109, .ref q118, .ref q127, .ref q136])), (q17, .inl (cI, 81, .inl (fun _ => 0))), (q35, .inl (cI, 40, .inl (fun _ => 0))), (q43, .inl (cI, 40, .inl (fun _ => 0))), (q51, .inl (cI, 81, .inl (fun _ => 0))), (q59, .inl (cI, 81, .inl (fun _ => 0))), (q68, .inl (cI, 4200, .inl (fun _ => 0))), (q76, .inl (cB, 172241, .inl (fun _ => 0))), (q84, .inl (cZ, 40, .inl (fun _ => 0))), (q92, .inl (cZ, 81, .inl (fun _ => 0))), (q100, .inl (cI, 81, .inl (fun _ => 0))), (q109, .inl (cI, 10000, .inl (fun _ => 0))), (q118, .inl (cI, 10000, .inl (fun _ => 0))), (q127, .inl (cI, 10000, .inl (fun _ => 0))), (q136, .inl (cI, 10000, .inl (fun _ => 0)))] H := hP
  have hD : va_D A [(mx, .inr (11, [.int 3, .int 3, .ref q17, .int 0, .int 4, .int 0, .int 0, .int 1, .int 0, .int 0, .int 0, .int 0, .ref q35, .ref q43, .ref q51, .ref q59, .ref q68, .ref q76, .int 0, .int 0, .ref q84, .int 0, .ref q92, .ref q100, .int 0, .ref q109, .ref q118, .ref q127, .ref q136])), (q17, .inl (cI, 81, .inl (fun _ => 0))), (q35, .inl (cI, 40, .inl (fun _ => 0))), (q43, .inl (cI, 40, .inl (fun _ => 0))), (q51, .inl (cI, 81, .inl (fun _ => 0))), (q59, .inl (cI, 81, .inl (fun _ => 0))), (q68, .inl (cI, 4200, .inl (fun _ => 0))), (q76, .inl (cB, 172241, .inl (fun _ => 0))), (q84, .inl (cZ, 40, .inl (fun _ => 0))), (q92, .inl (cZ, 81, .inl (fun _ => 0))), (q100, .inl (cI, 81, .inl (fun _ => 0))), (q109, .inl (cI, 10000, .inl (fun _ => 0))), (q118, .inl (cI, 10000, .inl (fun _ => 0))), (q127, .inl (cI, 10000, .inl (fun _ => 0))), (q136, .inl (cI, 10000, .inl (fun _ => 0)))] := hD
  refine W.widen (k := 14) (n := 216966) (Nat.le_of_ble_eq_true rfl) (Nat.le_of_ble_eq_true rfl) ?_
  exact kt_rv (q17, q35, q43, q51, q59, q68, q76, q84, q92, q100, q109, q118, q127, q136) hx hb hr hlk hS dX11_init_141 hP hD (by first | rfl | trivial | assumption | (simp_all; done) | grind)

theorem iw_X11_fields_X11 : ∀ w ∈ wsX110, w ∈ wsX11_fields := by decide +kernel
set_option maxHeartbeats 4000000 in
set_option maxRecDepth 100000 in
theorem f_X11_fields (l : Launch) (D : va_G) (cI cZ cB : ClassId) (sz : Nat) (mx : Nat) (ms : Nat) (mk : Nat) (ma : Nat) (mo : Nat) (mg : Nat) (mm : Nat) (mt : Nat) (mn : Nat) (me : Nat) (mq : Nat) (mw : Nat) (md : Nat) (mf : Nat) (mr : Nat) : kt_Mi l yX11_fields wsX11_fields { frames := 0, cells := 0, slots := 0, locals := 0 } D (kt_ty cI cZ cB) [.ref mx] sz [(mx, .inr (11, [.int 3, .int 3, .ref ms, .int 0, .int 4, .int 0, .int 0, .int 1, .int 0, .int 0, .int 0, .int 0, .ref mk, .ref ma, .ref mo, .ref mg, .ref mm, .ref mt, .int 0, .int 0, .ref mn, .int 0, .ref me, .ref mq, .int 0, .ref mw, .ref md, .ref mf, .ref mr]))] (fun (r : Int32) (u : Unit) => r = 9) (fun (u : Unit) => [(mx, .inr (11, [.int 3, .int 3, .ref ms, .int 0, .int 4, .int 0, .int 0, .int 1, .int 0, .int 0, .int 0, .int 0, .ref mk, .ref ma, .ref mo, .ref mg, .ref mm, .ref mt, .int 0, .int 0, .ref mn, .int 0, .ref me, .ref mq, .int 0, .ref mw, .ref md, .ref mf, .ref mr]))]) 0 0 := by
  refine kt_Mi.of (cc := cX11_fields) (maxL := 1) (ret := some .int) (by decide) rfl (Nat.le_of_ble_eq_true rfl) ?_
  intro p e s m below meth c A ls H hAt hP hD hS hl
  obtain ⟨hx, hb, hr, hml, hown, hts, hN, hK, hlk, hnm, hA⟩ := hAt
  have hl : lv_has ls 1 [(0, .ref mx)] := hl
  have hown : s.vm.findClass RX11 = some m.cls := hown
  refine lv_aload_n hx hb dX11_fields_0 rfl (lv_at hl 0 rfl) ?_
  refine va_get (D := D) (ci := 11) (C := RX11) (T := TX11) (N := 29) hx hb hts iw_X11_fields_X11 hown hK hP 0 rfl rfl 0 (by decide) (hts (.fieldLink RX11 7 "KingTableModel" "lines" "I") (by decide +kernel)) (fun _ h9 => h9) rfl dX11_fields_1 ?_
  refine lv_aload_n hx hb dX11_fields_4 rfl (lv_at hl 0 rfl) ?_
  refine va_get (D := D) (ci := 11) (C := RX11) (T := TX11) (N := 29) hx hb hts iw_X11_fields_X11 hown hK hP 0 rfl rfl 1 (by decide) (hts (.fieldLink RX11 13 "KingTableModel" "wide" "I") (by decide +kernel)) (fun _ h9 => h9) rfl dX11_fields_5 ?_
  refine lv_imul hx hb dX11_fields_8 ?_
  refine W.eq (g2 := F0 m 9 ls (.int 9 :: [])) rfl ?_
  exact kt_ri () hx hb hr hlk hS dX11_fields_9 hP hD (by rfl)

theorem iw_X11_board_X11 : ∀ w ∈ wsX110, w ∈ wsX11_board := by decide +kernel
set_option maxHeartbeats 4000000 in
set_option maxRecDepth 100000 in
theorem f_X11_board (l : Launch) (D : va_G) (cI cZ cB : ClassId) (sz : Nat) (mx : Nat) (ms : Nat) (mk : Nat) (ma : Nat) (mo : Nat) (mg : Nat) (mm : Nat) (mt : Nat) (mn : Nat) (me : Nat) (mq : Nat) (mw : Nat) (md : Nat) (mf : Nat) (mr : Nat) (p1 : Int32) (p2 : Int32) : kt_Mi l yX11_board wsX11_board { frames := 1, cells := 0, slots := 0, locals := 22 } D (kt_ty cI cZ cB) [.ref mx, .int p1, .int p2] sz [(mx, .inr (11, [.int 3, .int 3, .ref ms, .int 0, .int 4, .int 0, .int 0, .int 1, .int 0, .int 0, .int 0, .int 0, .ref mk, .ref ma, .ref mo, .ref mg, .ref mm, .ref mt, .int 0, .int 0, .ref mn, .int 0, .ref me, .ref mq, .int 0, .ref mw, .ref md, .ref mf, .ref mr])), (ms, .inl (cI, 81, .inl (fun _ => 0)))] (fun (r : Int32) (u : Int32 × Int32 × (Nat → Int32)) => kt_B r (2 ≤ p1 ∧ p1 ≤ 9 ∧ 2 ≤ p2 ∧ p2 ≤ 9)) (fun (u : Int32 × Int32 × (Nat → Int32)) => [(mx, .inr (11, [.int u.1, .int u.2.1, .ref ms, .int 0, .int 4, .int 0, .int 0, .int 1, .int 0, .int 0, .int 0, .int 0, .ref mk, .ref ma, .ref mo, .ref mg, .ref mm, .ref mt, .int 0, .int 0, .ref mn, .int 0, .ref me, .ref mq, .int 0, .ref mw, .ref md, .ref mf, .ref mr])), (ms, .inl (cI, 81, .inl u.2.2))]) 0 0 := by
  refine kt_Mi.of (cc := cX11_board) (maxL := 4) (ret := some .boolean) (by decide) rfl (Nat.le_of_ble_eq_true rfl) ?_
  intro p e s m below meth c A ls H hAt hP hD hS hl
  obtain ⟨hx, hb, hr, hml, hown, hts, hN, hK, hlk, hnm, hA⟩ := hAt
  have hl : lv_has ls 4 [(0, .ref mx), (1, .int p1), (2, .int p2)] := hl
  have hown : s.vm.findClass RX11 = some m.cls := hown
  refine lv_iload_n hx hb dX11_board_0 rfl (lv_at hl 1 rfl) ?_
  refine lv_iconst (v := 2) hx hb dX11_board_1 (by decide) ?_
  refine lv_bipush (v := 9) hx hb dX11_board_2 (by decide) ?_
  refine kt_pi (wc := []) [] hP hD hS hA rfl (by decide) (fun hPc hDc => va_runS (As := [.int p1, .int 2, .int 9]) (rest := []) ⟨hx, hb, hml, hown, hts⟩ (c_X11_isIn l D cI cZ cB H.size p1 2 9 ) (va_cwS 3 hts gX11_board_X11_isIn rfl rfl rfl (by decide +kernel) ⟨Nat.le_of_ble_eq_true rfl, Nat.le_of_ble_eq_true rfl⟩) (kt_preS hN hK hPc hDc) rfl rfl hl.1 rfl (lv_room (Nat.le_of_ble_eq_true rfl)) dX11_board_4 ⟨Nat.le_of_ble_eq_true rfl, Nat.le_of_ble_eq_true rfl⟩) (fun r_4 _ H locs hw_4 hP hS => ?_)
  refine lv_if_eq (tgt := 20) hx hb dX11_board_7 (by decide) (fun c_7 => ?_) (fun c_7 => ?_)
  · refine lv_iconst (v := 0) hx hb dX11_board_20 (by decide) ?_
    exact kt_rz (3, 3, fun _ => 0) hx hb hr hlk hS dX11_board_21 hP hD (by first | exact Or.inr ⟨rfl, fun h => (hw_4.f c_7) ⟨h.1, h.2.1⟩⟩ | exact Or.inr ⟨rfl, fun h => (hw_14.f c_17) ⟨h.2.2.1, h.2.2.2⟩⟩ | exact Or.inl ⟨rfl, (hw_4.t c_7).1, (hw_4.t c_7).2, (hw_14.t c_17).1, (hw_14.t c_17).2⟩) rfl
  · refine lv_iload_n hx hb dX11_board_10 rfl (lv_at hl 2 rfl) ?_
    refine lv_iconst (v := 2) hx hb dX11_board_11 (by decide) ?_
    refine lv_bipush (v := 9) hx hb dX11_board_12 (by decide) ?_
    refine kt_pi (wc := []) [] hP hD hS hA rfl (by decide) (fun hPc hDc => va_runS (As := [.int p2, .int 2, .int 9]) (rest := []) ⟨hx, hb, hml, hown, hts⟩ (c_X11_isIn l D cI cZ cB H.size p2 2 9 ) (va_cwS 3 hts gX11_board_X11_isIn rfl rfl rfl (by decide +kernel) ⟨Nat.le_of_ble_eq_true rfl, Nat.le_of_ble_eq_true rfl⟩) (kt_preS hN hK hPc hDc) rfl rfl hl.1 rfl (lv_room (Nat.le_of_ble_eq_true rfl)) dX11_board_14 ⟨Nat.le_of_ble_eq_true rfl, Nat.le_of_ble_eq_true rfl⟩) (fun r_14 _ H locs hw_14 hP hS => ?_)
    refine lv_if_ne (tgt := 22) hx hb dX11_board_17 (by decide) (fun c_17 => ?_) (fun c_17 => ?_)
    · refine lv_aload_n hx hb dX11_board_22 rfl (lv_at hl 0 rfl) ?_
      refine lv_iload_n hx hb dX11_board_23 rfl (lv_at hl 1 rfl) ?_
      refine va_put (D := D) (ci := 11) (v := .int p1) (ty := .int) (C := RX11) (T := TX11) (N := 29) hx hb hts iw_X11_board_X11 tyX11 tyX11_ok nmX11 hown hK hP hD hS 0 rfl rfl 0 (by decide) (hts (.fieldLink RX11 7 "KingTableModel" "lines" "I") (by decide +kernel)) (fun _ h9 => h9) rfl (by decide +kernel) rfl rfl (Nat.le_of_ble_eq_true rfl) dX11_board_24 (fun H locs hP hD hS => ?_)
      have hP : va_P D vwCl [(mx, .inr (11, [.int p1, .int 3, .ref ms, .int 0, .int 4, .int 0, .int 0, .int 1, .int 0, .int 0, .int 0, .int 0, .ref mk, .ref ma, .ref mo, .ref mg, .ref mm, .ref mt, .int 0, .int 0, .ref mn, .int 0, .ref me, .ref mq, .int 0, .ref mw, .ref md, .ref mf, .ref mr])), (ms, .inl (cI, 81, .inl (fun _ => 0)))] H := hP
      have hD : va_D A [(mx, .inr (11, [.int p1, .int 3, .ref ms, .int 0, .int 4, .int 0, .int 0, .int 1, .int 0, .int 0, .int 0, .int 0, .ref mk, .ref ma, .ref mo, .ref mg, .ref mm, .ref mt, .int 0, .int 0, .ref mn, .int 0, .ref me, .ref mq, .int 0, .ref mw, .ref md, .ref mf, .ref mr])), (ms, .inl (cI, 81, .inl (fun _ => 0)))] := hD
      refine lv_aload_n hx hb dX11_board_27 rfl (lv_at hl 0 rfl) ?_
      refine lv_iload_n hx hb dX11_board_28 rfl (lv_at hl 2 rfl) ?_
      refine va_put (D := D) (ci := 11) (v := .int p2) (ty := .int) (C := RX11) (T := TX11) (N := 29) hx hb hts iw_X11_board_X11 tyX11 tyX11_ok nmX11 hown hK hP hD hS 0 rfl rfl 1 (by decide) (hts (.fieldLink RX11 13 "KingTableModel" "wide" "I") (by decide +kernel)) (fun _ h9 => h9) rfl (by decide +kernel) rfl rfl (Nat.le_of_ble_eq_true rfl) dX11_board_29 (fun H locs hP hD hS => ?_)
      have hP : va_P D vwCl [(mx, .inr (11, [.int p1, .int p2, .ref ms, .int 0, .int 4, .int 0, .int 0, .int 1, .int 0, .int 0, .int 0, .int 0, .ref mk, .ref ma, .ref mo, .ref mg, .ref mm, .ref mt, .int 0, .int 0, .ref mn, .int 0, .ref me, .ref mq, .int 0, .ref mw, .ref md, .ref mf, .ref mr])), (ms, .inl (cI, 81, .inl (fun _ => 0)))] H := hP
      have hD : va_D A [(mx, .inr (11, [.int p1, .int p2, .ref ms, .int 0, .int 4, .int 0, .int 0, .int 1, .int 0, .int 0, .int 0, .int 0, .ref mk, .ref ma, .ref mo, .ref mg, .ref mm, .ref mt, .int 0, .int 0, .ref mn, .int 0, .ref me, .ref mq, .int 0, .ref mw, .ref md, .ref mf, .ref mr])), (ms, .inl (cI, 81, .inl (fun _ => 0)))] := hD
      refine lv_iconst (v := 0) hx hb dX11_board_32 (by decide) ?_
      refine lv_istore_n (lv' := [(3, .int 0), (0, .ref mx), (1, .int p1), (2, .int p2)]) hx hb dX11_board_33 rfl hl (by decide) rfl (fun ls hl => ?_)
      refine kt_loop (σ := Nat × (Nat → Int32)) 34 4 (fun u => [(mx, .inr (11, [.int p1, .int p2, .ref ms, .int 0, .int 4, .int 0, .int 0, .int 1, .int 0, .int 0, .int 0, .int 0, .ref mk, .ref ma, .ref mo, .ref mg, .ref mm, .ref mt, .int 0, .int 0, .ref mn, .int 0, .ref me, .ref mq, .int 0, .ref mw, .ref md, .ref mf, .ref mr])), (ms, .inl (cI, 81, .inl u.2))]) (fun u => [(3, .int (nI u.1)), (0, .ref mx), (1, .int p1), (2, .int p2)]) (fun n u => u.1 ≤ 81 ∧ 81 < u.1 + n) (fun u h => by omega) (fun n ih_34 u hI H locs hP hD hS ls hl => ?_) (82) (0, (fun _ => 0)) (by show 0 ≤ 81 ∧ 81 < 0 + 82; exact ⟨by decide, by decide⟩) hP hD hS (lv_sub hl [0, 1, 2, 3] rfl)
      obtain ⟨k, g⟩ := u
      have hP : va_P D vwCl [(mx, .inr (11, [.int p1, .int p2, .ref ms, .int 0, .int 4, .int 0, .int 0, .int 1, .int 0, .int 0, .int 0, .int 0, .ref mk, .ref ma, .ref mo, .ref mg, .ref mm, .ref mt, .int 0, .int 0, .ref mn, .int 0, .ref me, .ref mq, .int 0, .ref mw, .ref md, .ref mf, .ref mr])), (ms, .inl (cI, 81, .inl g))] H := hP
      have hD : va_D A [(mx, .inr (11, [.int p1, .int p2, .ref ms, .int 0, .int 4, .int 0, .int 0, .int 1, .int 0, .int 0, .int 0, .int 0, .ref mk, .ref ma, .ref mo, .ref mg, .ref mm, .ref mt, .int 0, .int 0, .ref mn, .int 0, .ref me, .ref mq, .int 0, .ref mw, .ref md, .ref mf, .ref mr])), (ms, .inl (cI, 81, .inl g))] := hD
      have hl : lv_has ls 4 [(3, .int (nI k)), (0, .ref mx), (1, .int p1), (2, .int p2)] := hl
      have hI : k ≤ 81 ∧ 81 < k + (n + 1) := hI
      refine lv_iload_n hx hb dX11_board_34 rfl (lv_at hl 0 rfl) ?_
      refine lv_bipush (v := 81) hx hb dX11_board_35 (by decide) ?_
      refine lv_icmp_ge (tgt := 53) hx hb dX11_board_37 (by decide) (fun c_37 => ?_) (fun c_37 => ?_)
      · refine lv_aload_n hx hb dX11_board_53 rfl (lv_at hl 1 rfl) ?_
        refine lv_iconst (v := 0) hx hb dX11_board_54 (by decide) ?_
        refine va_put (D := D) (ci := 11) (v := .int 0) (ty := .int) (C := RX11) (T := TX11) (N := 29) hx hb hts iw_X11_board_X11 tyX11 tyX11_ok nmX11 hown hK hP hD hS 0 rfl rfl 8 (by decide) (hts (.fieldLink RX11 73 "KingTableModel" "how" "I") (by decide +kernel)) (fun _ h9 => h9) rfl (by decide +kernel) rfl rfl (Nat.le_of_ble_eq_true rfl) dX11_board_55 (fun H locs hP hD hS => ?_)
        have hP : va_P D vwCl [(mx, .inr (11, [.int p1, .int p2, .ref ms, .int 0, .int 4, .int 0, .int 0, .int 1, .int 0, .int 0, .int 0, .int 0, .ref mk, .ref ma, .ref mo, .ref mg, .ref mm, .ref mt, .int 0, .int 0, .ref mn, .int 0, .ref me, .ref mq, .int 0, .ref mw, .ref md, .ref mf, .ref mr])), (ms, .inl (cI, 81, .inl g))] H := hP
        have hD : va_D A [(mx, .inr (11, [.int p1, .int p2, .ref ms, .int 0, .int 4, .int 0, .int 0, .int 1, .int 0, .int 0, .int 0, .int 0, .ref mk, .ref ma, .ref mo, .ref mg, .ref mm, .ref mt, .int 0, .int 0, .ref mn, .int 0, .ref me, .ref mq, .int 0, .ref mw, .ref md, .ref mf, .ref mr])), (ms, .inl (cI, 81, .inl g))] := hD
        refine lv_aload_n hx hb dX11_board_58 rfl (lv_at hl 1 rfl) ?_
        refine lv_iconst (v := 0) hx hb dX11_board_59 (by decide) ?_
        refine va_put (D := D) (ci := 11) (v := .int 0) (ty := .boolean) (C := RX11) (T := TX11) (N := 29) hx hb hts iw_X11_board_X11 tyX11 tyX11_ok nmX11 hown hK hP hD hS 0 rfl rfl 24 (by decide) (hts (.fieldLink RX11 76 "KingTableModel" "solved" "Z") (by decide +kernel)) (fun _ h9 => h9) rfl (by decide +kernel) rfl rfl (Nat.le_of_ble_eq_true rfl) dX11_board_60 (fun H locs hP hD hS => ?_)
        have hP : va_P D vwCl [(mx, .inr (11, [.int p1, .int p2, .ref ms, .int 0, .int 4, .int 0, .int 0, .int 1, .int 0, .int 0, .int 0, .int 0, .ref mk, .ref ma, .ref mo, .ref mg, .ref mm, .ref mt, .int 0, .int 0, .ref mn, .int 0, .ref me, .ref mq, .int 0, .ref mw, .ref md, .ref mf, .ref mr])), (ms, .inl (cI, 81, .inl g))] H := hP
        have hD : va_D A [(mx, .inr (11, [.int p1, .int p2, .ref ms, .int 0, .int 4, .int 0, .int 0, .int 1, .int 0, .int 0, .int 0, .int 0, .ref mk, .ref ma, .ref mo, .ref mg, .ref mm, .ref mt, .int 0, .int 0, .ref mn, .int 0, .ref me, .ref mq, .int 0, .ref mw, .ref md, .ref mf, .ref mr])), (ms, .inl (cI, 81, .inl g))] := hD
        refine lv_iconst (v := 1) hx hb dX11_board_63 (by decide) ?_
        exact kt_rz (p1, p2, g) hx hb hr hlk hS dX11_board_64 hP hD (by first | exact Or.inr ⟨rfl, fun h => (hw_4.f c_7) ⟨h.1, h.2.1⟩⟩ | exact Or.inr ⟨rfl, fun h => (hw_14.f c_17) ⟨h.2.2.1, h.2.2.2⟩⟩ | exact Or.inl ⟨rfl, (hw_4.t c_7).1, (hw_4.t c_7).2, (hw_14.t c_17).1, (hw_14.t c_17).2⟩) rfl
      · have hk : k < 81 := by
          rcases Nat.lt_or_ge k 81 with q | q
          · exact q
          · exact absurd (nI_le q (by omega)) c_37
        refine lv_aload_n hx hb dX11_board_40 rfl (lv_at hl 1 rfl) ?_
        refine va_get (D := D) (ci := 11) (C := RX11) (T := TX11) (N := 29) hx hb hts iw_X11_board_X11 hown hK hP 0 rfl rfl 2 (by decide) (hts (.fieldLink RX11 16 "KingTableModel" "signs" "[I") (by decide +kernel)) (fun _ h9 => h9) rfl dX11_board_41 ?_
        refine lv_iload_n hx hb dX11_board_44 rfl (lv_at hl 0 rfl) ?_
        refine lv_iconst (v := 0) hx hb dX11_board_45 (by decide) ?_
        have hi_1 : vp_in (nI k) 81 := by exact vp_in_nI hk (by omega)
        refine va_iast hx hb hK hP hD hS 1 0 rfl rfl hi_1 dX11_board_46 (fun H locs hP hD hS => ?_)
        have hP : va_P D vwCl [(mx, .inr (11, [.int p1, .int p2, .ref ms, .int 0, .int 4, .int 0, .int 0, .int 1, .int 0, .int 0, .int 0, .int 0, .ref mk, .ref ma, .ref mo, .ref mg, .ref mm, .ref mt, .int 0, .int 0, .ref mn, .int 0, .ref me, .ref mq, .int 0, .ref mw, .ref md, .ref mf, .ref mr])), (ms, .inl (cI, 81, .inl (upd g (nI k).toNatClampNeg 0)))] H := hP
        have hD : va_D A [(mx, .inr (11, [.int p1, .int p2, .ref ms, .int 0, .int 4, .int 0, .int 0, .int 1, .int 0, .int 0, .int 0, .int 0, .ref mk, .ref ma, .ref mo, .ref mg, .ref mm, .ref mt, .int 0, .int 0, .ref mn, .int 0, .ref me, .ref mq, .int 0, .ref mw, .ref md, .ref mf, .ref mr])), (ms, .inl (cI, 81, .inl (upd g (nI k).toNatClampNeg 0)))] := hD
        refine lv_iinc (v := nI (k + 1)) (lv' := [(3, .int (nI (k + 1))), (0, .ref mx), (1, .int p1), (2, .int p2)]) hx hb dX11_board_47 hl (k := 0) rfl (nI_1 _) (by decide) rfl (fun ls hl => ?_)
        refine lv_goto (tgt := 34) hx hb dX11_board_50 (by decide) ?_
        exact ih_34 ((k + 1), (upd g (nI k).toNatClampNeg 0)) (by show (k + 1) ≤ 81 ∧ 81 < (k + 1) + n; omega) H _ hP hD hS ls (lv_sub hl [0, 1, 2, 3] rfl)
    · refine lv_iconst (v := 0) hx hb dX11_board_20 (by decide) ?_
      exact kt_rz (3, 3, fun _ => 0) hx hb hr hlk hS dX11_board_21 hP hD (by first | exact Or.inr ⟨rfl, fun h => (hw_4.f c_7) ⟨h.1, h.2.1⟩⟩ | exact Or.inr ⟨rfl, fun h => (hw_14.f c_17) ⟨h.2.2.1, h.2.2.2⟩⟩ | exact Or.inl ⟨rfl, (hw_4.t c_7).1, (hw_4.t c_7).2, (hw_14.t c_17).1, (hw_14.t c_17).2⟩) rfl

theorem iw_X11_line_X11 : ∀ w ∈ wsX110, w ∈ wsX11_line := by decide +kernel
set_option maxHeartbeats 4000000 in
set_option maxRecDepth 100000 in
theorem f_X11_line (l : Launch) (D : va_G) (cI cZ cB : ClassId) (sz : Nat) (mx : Nat) (ms : Nat) (mk : Nat) (ma : Nat) (mo : Nat) (mg : Nat) (mm : Nat) (mt : Nat) (mn : Nat) (me : Nat) (mq : Nat) (mw : Nat) (md : Nat) (mf : Nat) (mr : Nat) (p1 : Int32) (p2 : Int32) (p3 : Int32) : kt_Mi l yX11_line wsX11_line { frames := 1, cells := 0, slots := 0, locals := 22 } D (kt_ty cI cZ cB) [.ref mx, .int p1, .int p2, .int p3] sz [(mx, .inr (11, [.int 3, .int 3, .ref ms, .int 0, .int 4, .int 0, .int 0, .int 1, .int 0, .int 0, .int 0, .int 0, .ref mk, .ref ma, .ref mo, .ref mg, .ref mm, .ref mt, .int 0, .int 0, .ref mn, .int 0, .ref me, .ref mq, .int 0, .ref mw, .ref md, .ref mf, .ref mr])), (ms, .inl (cI, 81, .inl (fun _ => 0)))] (fun (r : Int32) (u : (Nat → Int32)) => kt_B r (0 ≤ p1 ∧ p1 < 3 ∧ 0 ≤ p2 ∧ p2 ≤ 3)) (fun (u : (Nat → Int32)) => [(mx, .inr (11, [.int 3, .int 3, .ref ms, .int 0, .int 4, .int 0, .int 0, .int 1, .int 0, .int 0, .int 0, .int 0, .ref mk, .ref ma, .ref mo, .ref mg, .ref mm, .ref mt, .int 0, .int 0, .ref mn, .int 0, .ref me, .ref mq, .int 0, .ref mw, .ref md, .ref mf, .ref mr])), (ms, .inl (cI, 81, .inl u))]) 0 0 := by
  refine kt_Mi.of (cc := cX11_line) (maxL := 5) (ret := some .boolean) (by decide) rfl (Nat.le_of_ble_eq_true rfl) ?_
  intro p e s m below meth c A ls H hAt hP hD hS hl
  obtain ⟨hx, hb, hr, hml, hown, hts, hN, hK, hlk, hnm, hA⟩ := hAt
  have hl : lv_has ls 5 [(0, .ref mx), (1, .int p1), (2, .int p2), (3, .int p3)] := hl
  have hown : s.vm.findClass RX11 = some m.cls := hown
  refine lv_aload_n hx hb dX11_line_0 rfl (lv_at hl 0 rfl) ?_
  refine va_get (D := D) (ci := 11) (C := RX11) (T := TX11) (N := 29) hx hb hts iw_X11_line_X11 hown hK hP 0 rfl rfl 8 (by decide) (hts (.fieldLink RX11 73 "KingTableModel" "how" "I") (by decide +kernel)) (fun _ h9 => h9) rfl dX11_line_1 ?_
  refine lv_if_gt (tgt := 33) hx hb dX11_line_4 (by decide) (fun c_4 => absurd c_4 (by decide)) (fun c_4 => ?_)
  refine lv_iload_n hx hb dX11_line_7 rfl (lv_at hl 1 rfl) ?_
  refine lv_iconst (v := 0) hx hb dX11_line_8 (by decide) ?_
  refine lv_aload_n hx hb dX11_line_9 rfl (lv_at hl 0 rfl) ?_
  refine va_get (D := D) (ci := 11) (C := RX11) (T := TX11) (N := 29) hx hb hts iw_X11_line_X11 hown hK hP 0 rfl rfl 0 (by decide) (hts (.fieldLink RX11 7 "KingTableModel" "lines" "I") (by decide +kernel)) (fun _ h9 => h9) rfl dX11_line_10 ?_
  refine lv_iconst (v := 1) hx hb dX11_line_13 (by decide) ?_
  refine lv_isub hx hb dX11_line_14 ?_
  refine W.eq (g2 := F0 m 15 ls (.int 2 :: [.int 0, .int p1])) rfl ?_
  refine kt_pi (wc := []) [] hP hD hS hA rfl (by decide) (fun hPc hDc => va_runS (As := [.int p1, .int 0, .int 2]) (rest := []) ⟨hx, hb, hml, hown, hts⟩ (c_X11_isIn l D cI cZ cB H.size p1 0 2 ) (va_cwS 3 hts gX11_line_X11_isIn rfl rfl rfl (by decide +kernel) ⟨Nat.le_of_ble_eq_true rfl, Nat.le_of_ble_eq_true rfl⟩) (kt_preS hN hK hPc hDc) rfl rfl hl.1 rfl (lv_room (Nat.le_of_ble_eq_true rfl)) dX11_line_15 ⟨Nat.le_of_ble_eq_true rfl, Nat.le_of_ble_eq_true rfl⟩) (fun r_15 _ H locs hw_15 hP hS => ?_)
  refine lv_if_eq (tgt := 33) hx hb dX11_line_18 (by decide) (fun c_18 => ?_) (fun c_18 => ?_)
  · refine lv_iconst (v := 0) hx hb dX11_line_33 (by decide) ?_
    exact kt_rz (fun _ => 0) hx hb hr hlk hS dX11_line_34 hP hD (by first | exact Or.inr ⟨rfl, fun h => (hw_15.f c_18) (by (simp only [kt_lt, kt_le, kt_eq, kt_c0 , kt_c1 , kt_c2 , kt_c3 , kt_c4 , kt_c8 , kt_c9 , kt_cm1 , kt_c81 , kt_c40 , kt_c7 , kt_c5 , kt_c6] at *; omega))⟩ | exact Or.inr ⟨rfl, fun h => (hw_27.f c_30) (by (simp only [kt_lt, kt_le, kt_eq, kt_c0 , kt_c1 , kt_c2 , kt_c3 , kt_c4 , kt_c8 , kt_c9 , kt_cm1 , kt_c81 , kt_c40 , kt_c7 , kt_c5 , kt_c6] at *; omega))⟩ | exact Or.inl ⟨rfl, by have h1 := hw_15.t c_18; have h2 := hw_27.t c_30; clear hw_15 hw_27; (simp only [kt_lt, kt_le, kt_eq, kt_c0 , kt_c1 , kt_c2 , kt_c3 , kt_c4 , kt_c8 , kt_c9 , kt_cm1 , kt_c81 , kt_c40 , kt_c7 , kt_c5 , kt_c6] at *; omega)⟩) rfl
  · refine lv_iload_n hx hb dX11_line_21 rfl (lv_at hl 2 rfl) ?_
    refine lv_iconst (v := 0) hx hb dX11_line_22 (by decide) ?_
    refine lv_aload_n hx hb dX11_line_23 rfl (lv_at hl 0 rfl) ?_
    refine va_get (D := D) (ci := 11) (C := RX11) (T := TX11) (N := 29) hx hb hts iw_X11_line_X11 hown hK hP 0 rfl rfl 1 (by decide) (hts (.fieldLink RX11 13 "KingTableModel" "wide" "I") (by decide +kernel)) (fun _ h9 => h9) rfl dX11_line_24 ?_
    refine kt_pi (wc := []) [] hP hD hS hA rfl (by decide) (fun hPc hDc => va_runS (As := [.int p2, .int 0, .int 3]) (rest := []) ⟨hx, hb, hml, hown, hts⟩ (c_X11_isIn l D cI cZ cB H.size p2 0 3 ) (va_cwS 3 hts gX11_line_X11_isIn rfl rfl rfl (by decide +kernel) ⟨Nat.le_of_ble_eq_true rfl, Nat.le_of_ble_eq_true rfl⟩) (kt_preS hN hK hPc hDc) rfl rfl hl.1 rfl (lv_room (Nat.le_of_ble_eq_true rfl)) dX11_line_27 ⟨Nat.le_of_ble_eq_true rfl, Nat.le_of_ble_eq_true rfl⟩) (fun r_27 _ H locs hw_27 hP hS => ?_)
    refine lv_if_ne (tgt := 35) hx hb dX11_line_30 (by decide) (fun c_30 => ?_) (fun c_30 => ?_)
    · refine lv_iconst (v := 0) hx hb dX11_line_35 (by decide) ?_
      refine lv_istore (lv' := [(4, .int 0), (0, .ref mx), (1, .int p1), (2, .int p2), (3, .int p3)]) hx hb dX11_line_36 hl (by decide) rfl (fun ls hl => ?_)
      refine kt_loop (σ := Nat × (Nat → Int32)) 38 5 (fun u => [(mx, .inr (11, [.int 3, .int 3, .ref ms, .int 0, .int 4, .int 0, .int 0, .int 1, .int 0, .int 0, .int 0, .int 0, .ref mk, .ref ma, .ref mo, .ref mg, .ref mm, .ref mt, .int 0, .int 0, .ref mn, .int 0, .ref me, .ref mq, .int 0, .ref mw, .ref md, .ref mf, .ref mr])), (ms, .inl (cI, 81, .inl u.2))]) (fun u => [(4, .int (nI u.1)), (0, .ref mx), (1, .int p1), (2, .int p2), (3, .int p3)]) (fun n u => u.1 ≤ 3 ∧ 3 < u.1 + n) (fun u h => by omega) (fun n ih_38 u hI H locs hP hD hS ls hl => ?_) (4) (0, (fun _ => 0)) (by show 0 ≤ 3 ∧ 3 < 0 + 4; exact ⟨by decide, by decide⟩) hP hD hS (lv_sub hl [0, 1, 2, 3, 4] rfl)
      obtain ⟨k, g⟩ := u
      have hP : va_P D vwCl [(mx, .inr (11, [.int 3, .int 3, .ref ms, .int 0, .int 4, .int 0, .int 0, .int 1, .int 0, .int 0, .int 0, .int 0, .ref mk, .ref ma, .ref mo, .ref mg, .ref mm, .ref mt, .int 0, .int 0, .ref mn, .int 0, .ref me, .ref mq, .int 0, .ref mw, .ref md, .ref mf, .ref mr])), (ms, .inl (cI, 81, .inl g))] H := hP
      have hD : va_D A [(mx, .inr (11, [.int 3, .int 3, .ref ms, .int 0, .int 4, .int 0, .int 0, .int 1, .int 0, .int 0, .int 0, .int 0, .ref mk, .ref ma, .ref mo, .ref mg, .ref mm, .ref mt, .int 0, .int 0, .ref mn, .int 0, .ref me, .ref mq, .int 0, .ref mw, .ref md, .ref mf, .ref mr])), (ms, .inl (cI, 81, .inl g))] := hD
      have hl : lv_has ls 5 [(4, .int (nI k)), (0, .ref mx), (1, .int p1), (2, .int p2), (3, .int p3)] := hl
      have hI : k ≤ 3 ∧ 3 < k + (n + 1) := hI
      refine lv_iload hx hb dX11_line_38 (lv_at hl 0 rfl) ?_
      refine lv_aload_n hx hb dX11_line_40 rfl (lv_at hl 1 rfl) ?_
      refine va_get (D := D) (ci := 11) (C := RX11) (T := TX11) (N := 29) hx hb hts iw_X11_line_X11 hown hK hP 0 rfl rfl 1 (by decide) (hts (.fieldLink RX11 13 "KingTableModel" "wide" "I") (by decide +kernel)) (fun _ h9 => h9) rfl dX11_line_41 ?_
      refine lv_icmp_ge (tgt := 86) hx hb dX11_line_44 (by decide) (fun c_44 => ?_) (fun c_44 => ?_)
      · refine lv_iconst (v := 1) hx hb dX11_line_86 (by decide) ?_
        exact kt_rz g hx hb hr hlk hS dX11_line_87 hP hD (by first | exact Or.inr ⟨rfl, fun h => (hw_15.f c_18) (by (simp only [kt_lt, kt_le, kt_eq, kt_c0 , kt_c1 , kt_c2 , kt_c3 , kt_c4 , kt_c8 , kt_c9 , kt_cm1 , kt_c81 , kt_c40 , kt_c7 , kt_c5 , kt_c6] at *; omega))⟩ | exact Or.inr ⟨rfl, fun h => (hw_27.f c_30) (by (simp only [kt_lt, kt_le, kt_eq, kt_c0 , kt_c1 , kt_c2 , kt_c3 , kt_c4 , kt_c8 , kt_c9 , kt_cm1 , kt_c81 , kt_c40 , kt_c7 , kt_c5 , kt_c6] at *; omega))⟩ | exact Or.inl ⟨rfl, by have h1 := hw_15.t c_18; have h2 := hw_27.t c_30; clear hw_15 hw_27; (simp only [kt_lt, kt_le, kt_eq, kt_c0 , kt_c1 , kt_c2 , kt_c3 , kt_c4 , kt_c8 , kt_c9 , kt_cm1 , kt_c81 , kt_c40 , kt_c7 , kt_c5 , kt_c6] at *; omega)⟩) rfl
      · have hk : k < 3 := by
          rcases Nat.lt_or_ge k 3 with q | q
          · exact q
          · exact absurd (nI_le q (by omega)) c_44
        refine lv_aload_n hx hb dX11_line_47 rfl (lv_at hl 1 rfl) ?_
        refine va_get (D := D) (ci := 11) (C := RX11) (T := TX11) (N := 29) hx hb hts iw_X11_line_X11 hown hK hP 0 rfl rfl 2 (by decide) (hts (.fieldLink RX11 16 "KingTableModel" "signs" "[I") (by decide +kernel)) (fun _ h9 => h9) rfl dX11_line_48 ?_
        refine lv_aload_n hx hb dX11_line_51 rfl (lv_at hl 1 rfl) ?_
        refine va_get (D := D) (ci := 11) (C := RX11) (T := TX11) (N := 29) hx hb hts iw_X11_line_X11 hown hK hP 0 rfl rfl 1 (by decide) (hts (.fieldLink RX11 13 "KingTableModel" "wide" "I") (by decide +kernel)) (fun _ h9 => h9) rfl dX11_line_52 ?_
        refine lv_iload_n hx hb dX11_line_55 rfl (lv_at hl 2 rfl) ?_
        refine lv_imul hx hb dX11_line_56 ?_
        refine lv_iload hx hb dX11_line_57 (lv_at hl 0 rfl) ?_
        refine lv_iadd hx hb dX11_line_59 ?_
        refine lv_iload hx hb dX11_line_60 (lv_at hl 0 rfl) ?_
        refine lv_iload_n hx hb dX11_line_62 rfl (lv_at hl 3 rfl) ?_
        refine lv_icmp_ge (tgt := 78) hx hb dX11_line_63 (by decide) (fun c_63 => ?_) (fun c_63 => ?_)
        · refine lv_iconst (v := 0) hx hb dX11_line_78 (by decide) ?_
          have hi_1 : vp_in ((3 * p1) + (nI k)) 81 := by have hq1 := hw_15.t c_18; obtain ⟨r0, hr0, er0⟩ : ∃ r0 : Nat, r0 < 3 ∧ p1 = nI r0 := ⟨p1.toInt.toNat, by (simp only [kt_lt, kt_le, kt_eq, kt_c0 , kt_c1 , kt_c2 , kt_c3 , kt_c4 , kt_c8 , kt_c9 , kt_cm1 , kt_c81 , kt_c40 , kt_c7 , kt_c5 , kt_c6] at *; omega), kt_nIof (by (simp only [kt_lt, kt_le, kt_eq, kt_c0 , kt_c1 , kt_c2 , kt_c3 , kt_c4 , kt_c8 , kt_c9 , kt_cm1 , kt_c81 , kt_c40 , kt_c7 , kt_c5 , kt_c6] at *; omega))⟩; rw [show 3 * p1 + nI k = nI (r0 * 3 + k) by rw [er0, show (3 : Int32) = nI 3 from rfl, show nI 3 * nI r0 = nI r0 * nI 3 from Int32.mul_comm _ _, pk_mul, nI_add]]; exact vp_in_nI (by omega) (by omega)
          refine va_iast hx hb hK hP hD hS 1 0 rfl rfl hi_1 dX11_line_79 (fun H locs hP hD hS => ?_)
          have hP : va_P D vwCl [(mx, .inr (11, [.int 3, .int 3, .ref ms, .int 0, .int 4, .int 0, .int 0, .int 1, .int 0, .int 0, .int 0, .int 0, .ref mk, .ref ma, .ref mo, .ref mg, .ref mm, .ref mt, .int 0, .int 0, .ref mn, .int 0, .ref me, .ref mq, .int 0, .ref mw, .ref md, .ref mf, .ref mr])), (ms, .inl (cI, 81, .inl (upd g ((3 * p1) + (nI k)).toNatClampNeg 0)))] H := hP
          have hD : va_D A [(mx, .inr (11, [.int 3, .int 3, .ref ms, .int 0, .int 4, .int 0, .int 0, .int 1, .int 0, .int 0, .int 0, .int 0, .ref mk, .ref ma, .ref mo, .ref mg, .ref mm, .ref mt, .int 0, .int 0, .ref mn, .int 0, .ref me, .ref mq, .int 0, .ref mw, .ref md, .ref mf, .ref mr])), (ms, .inl (cI, 81, .inl (upd g ((3 * p1) + (nI k)).toNatClampNeg 0)))] := hD
          refine lv_iinc (v := nI (k + 1)) (lv' := [(4, .int (nI (k + 1))), (0, .ref mx), (1, .int p1), (2, .int p2), (3, .int p3)]) hx hb dX11_line_80 hl (k := 0) rfl (nI_1 _) (by decide) rfl (fun ls hl => ?_)
          refine lv_goto (tgt := 38) hx hb dX11_line_83 (by decide) ?_
          exact ih_38 ((k + 1), (upd g ((3 * p1) + (nI k)).toNatClampNeg 0)) (by show (k + 1) ≤ 3 ∧ 3 < (k + 1) + n; omega) H _ hP hD hS ls (lv_sub hl [0, 1, 2, 3, 4] rfl)
        · refine lv_iload_n hx hb dX11_line_66 rfl (lv_at hl 4 rfl) ?_
          refine lv_iconst (v := 3) hx hb dX11_line_67 (by decide) ?_
          refine lv_iload hx hb dX11_line_68 (lv_at hl 0 rfl) ?_
          refine lv_imul hx hb dX11_line_70 ?_
          refine lv_ishr hx hb dX11_line_71 ?_
          refine lv_bipush (v := 7) hx hb dX11_line_72 (by decide) ?_
          refine lv_iand hx hb dX11_line_74 ?_
          refine lv_goto (tgt := 79) hx hb dX11_line_75 (by decide) ?_
          have hi_2 : vp_in ((3 * p1) + (nI k)) 81 := by have hq1 := hw_15.t c_18; obtain ⟨r0, hr0, er0⟩ : ∃ r0 : Nat, r0 < 3 ∧ p1 = nI r0 := ⟨p1.toInt.toNat, by (simp only [kt_lt, kt_le, kt_eq, kt_c0 , kt_c1 , kt_c2 , kt_c3 , kt_c4 , kt_c8 , kt_c9 , kt_cm1 , kt_c81 , kt_c40 , kt_c7 , kt_c5 , kt_c6] at *; omega), kt_nIof (by (simp only [kt_lt, kt_le, kt_eq, kt_c0 , kt_c1 , kt_c2 , kt_c3 , kt_c4 , kt_c8 , kt_c9 , kt_cm1 , kt_c81 , kt_c40 , kt_c7 , kt_c5 , kt_c6] at *; omega))⟩; rw [show 3 * p1 + nI k = nI (r0 * 3 + k) by rw [er0, show (3 : Int32) = nI 3 from rfl, show nI 3 * nI r0 = nI r0 * nI 3 from Int32.mul_comm _ _, pk_mul, nI_add]]; exact vp_in_nI (by omega) (by omega)
          refine va_iast hx hb hK hP hD hS 1 0 rfl rfl hi_2 dX11_line_79 (fun H locs hP hD hS => ?_)
          have hP : va_P D vwCl [(mx, .inr (11, [.int 3, .int 3, .ref ms, .int 0, .int 4, .int 0, .int 0, .int 1, .int 0, .int 0, .int 0, .int 0, .ref mk, .ref ma, .ref mo, .ref mg, .ref mm, .ref mt, .int 0, .int 0, .ref mn, .int 0, .ref me, .ref mq, .int 0, .ref mw, .ref md, .ref mf, .ref mr])), (ms, .inl (cI, 81, .inl (upd g ((3 * p1) + (nI k)).toNatClampNeg ((p3 >>> ((3 * (nI k)) &&& 31)) &&& 7))))] H := hP
          have hD : va_D A [(mx, .inr (11, [.int 3, .int 3, .ref ms, .int 0, .int 4, .int 0, .int 0, .int 1, .int 0, .int 0, .int 0, .int 0, .ref mk, .ref ma, .ref mo, .ref mg, .ref mm, .ref mt, .int 0, .int 0, .ref mn, .int 0, .ref me, .ref mq, .int 0, .ref mw, .ref md, .ref mf, .ref mr])), (ms, .inl (cI, 81, .inl (upd g ((3 * p1) + (nI k)).toNatClampNeg ((p3 >>> ((3 * (nI k)) &&& 31)) &&& 7))))] := hD
          refine lv_iinc (v := nI (k + 1)) (lv' := [(4, .int (nI (k + 1))), (0, .ref mx), (1, .int p1), (2, .int p2), (3, .int p3)]) hx hb dX11_line_80 hl (k := 0) rfl (nI_1 _) (by decide) rfl (fun ls hl => ?_)
          refine lv_goto (tgt := 38) hx hb dX11_line_83 (by decide) ?_
          exact ih_38 ((k + 1), (upd g ((3 * p1) + (nI k)).toNatClampNeg ((p3 >>> ((3 * (nI k)) &&& 31)) &&& 7))) (by show (k + 1) ≤ 3 ∧ 3 < (k + 1) + n; omega) H _ hP hD hS ls (lv_sub hl [0, 1, 2, 3, 4] rfl)
    · refine lv_iconst (v := 0) hx hb dX11_line_33 (by decide) ?_
      exact kt_rz (fun _ => 0) hx hb hr hlk hS dX11_line_34 hP hD (by first | exact Or.inr ⟨rfl, fun h => (hw_15.f c_18) (by (simp only [kt_lt, kt_le, kt_eq, kt_c0 , kt_c1 , kt_c2 , kt_c3 , kt_c4 , kt_c8 , kt_c9 , kt_cm1 , kt_c81 , kt_c40 , kt_c7 , kt_c5 , kt_c6] at *; omega))⟩ | exact Or.inr ⟨rfl, fun h => (hw_27.f c_30) (by (simp only [kt_lt, kt_le, kt_eq, kt_c0 , kt_c1 , kt_c2 , kt_c3 , kt_c4 , kt_c8 , kt_c9 , kt_cm1 , kt_c81 , kt_c40 , kt_c7 , kt_c5 , kt_c6] at *; omega))⟩ | exact Or.inl ⟨rfl, by have h1 := hw_15.t c_18; have h2 := hw_27.t c_30; clear hw_15 hw_27; (simp only [kt_lt, kt_le, kt_eq, kt_c0 , kt_c1 , kt_c2 , kt_c3 , kt_c4 , kt_c8 , kt_c9 , kt_cm1 , kt_c81 , kt_c40 , kt_c7 , kt_c5 , kt_c6] at *; omega)⟩) rfl

theorem iw_X11_law_X11 : ∀ w ∈ wsX110, w ∈ wsX11_law := by decide +kernel
set_option maxHeartbeats 4000000 in
set_option maxRecDepth 100000 in
theorem f_X11_law (l : Launch) (D : va_G) (cI cZ cB : ClassId) (sz : Nat) (mx : Nat) (ms : Nat) (mk : Nat) (ma : Nat) (mo : Nat) (mg : Nat) (mm : Nat) (mt : Nat) (mn : Nat) (me : Nat) (mq : Nat) (mw : Nat) (md : Nat) (mf : Nat) (mr : Nat) (p1 : Int32) (p2 : Int32) (p3 : Int32) (p4 : Int32) (p5 : Int32) (hz : narrow .boolean (.int p3) = .int p3) (hf : fits .boolean (.int p3) = true) : kt_Mi l yX11_law wsX11_law { frames := 1, cells := 0, slots := 0, locals := 22 } D (kt_ty cI cZ cB) [.ref mx, .int p1, .int p2, .int p3, .int p4, .int p5] sz [(mx, .inr (11, [.int 3, .int 3, .ref ms, .int 0, .int 4, .int 0, .int 0, .int 1, .int 0, .int 0, .int 0, .int 0, .ref mk, .ref ma, .ref mo, .ref mg, .ref mm, .ref mt, .int 0, .int 0, .ref mn, .int 0, .ref me, .ref mq, .int 0, .ref mw, .ref md, .ref mf, .ref mr]))] (fun (r : Int32) (u : Int32 × Int32 × Int32 × Int32 × Int32) => kt_B r ((p1 = 0 ∨ p1 = 1) ∧ (p2 = 2 ∨ p2 = 4) ∧ 0 ≤ p4 ∧ p4 ≤ 8 ∧ (p5 = 0 ∨ p5 = 1))) (fun (u : Int32 × Int32 × Int32 × Int32 × Int32) => [(mx, .inr (11, [.int 3, .int 3, .ref ms, .int u.1, .int u.2.1, .int u.2.2.2.1, .int u.2.2.2.2, .int u.2.2.1, .int 0, .int 0, .int 0, .int 0, .ref mk, .ref ma, .ref mo, .ref mg, .ref mm, .ref mt, .int 0, .int 0, .ref mn, .int 0, .ref me, .ref mq, .int 0, .ref mw, .ref md, .ref mf, .ref mr]))]) 0 0 := by
  refine kt_Mi.of (cc := cX11_law) (maxL := 6) (ret := some .boolean) (by decide) rfl (Nat.le_of_ble_eq_true rfl) ?_
  intro p e s m below meth c A ls H hAt hP hD hS hl
  obtain ⟨hx, hb, hr, hml, hown, hts, hN, hK, hlk, hnm, hA⟩ := hAt
  have hl : lv_has ls 6 [(0, .ref mx), (1, .int p1), (2, .int p2), (3, .int p3), (4, .int p4), (5, .int p5)] := hl
  have hown : s.vm.findClass RX11 = some m.cls := hown
  refine lv_aload_n hx hb dX11_law_0 rfl (lv_at hl 0 rfl) ?_
  refine va_get (D := D) (ci := 11) (C := RX11) (T := TX11) (N := 29) hx hb hts iw_X11_law_X11 hown hK hP 0 rfl rfl 8 (by decide) (hts (.fieldLink RX11 73 "KingTableModel" "how" "I") (by decide +kernel)) (fun _ h9 => h9) rfl dX11_law_1 ?_
  refine lv_if_gt (tgt := 47) hx hb dX11_law_4 (by decide) (fun c_4 => absurd c_4 (by decide)) (fun c_4 => ?_)
  refine lv_iload_n hx hb dX11_law_7 rfl (lv_at hl 1 rfl) ?_
  refine lv_iconst (v := 0) hx hb dX11_law_8 (by decide) ?_
  refine lv_iconst (v := 1) hx hb dX11_law_9 (by decide) ?_
  refine kt_pi (wc := []) [] hP hD hS hA rfl (by decide) (fun hPc hDc => va_runS (As := [.int p1, .int 0, .int 1]) (rest := []) ⟨hx, hb, hml, hown, hts⟩ (c_X11_isIn l D cI cZ cB H.size p1 0 1 ) (va_cwS 3 hts gX11_law_X11_isIn rfl rfl rfl (by decide +kernel) ⟨Nat.le_of_ble_eq_true rfl, Nat.le_of_ble_eq_true rfl⟩) (kt_preS hN hK hPc hDc) rfl rfl hl.1 rfl (lv_room (Nat.le_of_ble_eq_true rfl)) dX11_law_10 ⟨Nat.le_of_ble_eq_true rfl, Nat.le_of_ble_eq_true rfl⟩) (fun r_10 _ H locs hw_10 hP hS => ?_)
  refine lv_if_eq (tgt := 47) hx hb dX11_law_13 (by decide) (fun c_13 => ?_) (fun c_13 => ?_)
  · refine lv_iconst (v := 0) hx hb dX11_law_47 (by decide) ?_
    exact kt_rz (0, 4, 1, 0, 0) hx hb hr hlk hS dX11_law_48 hP hD (by first | exact Or.inr ⟨rfl, fun h => (hw_10.f c_13) (by (simp only [kt_lt, kt_le, kt_eq, kt_c0 , kt_c1 , kt_c2 , kt_c3 , kt_c4 , kt_c8 , kt_c9 , kt_cm1 , kt_c81 , kt_c40 , kt_c7 , kt_c5 , kt_c6] at *; omega))⟩ | exact Or.inr ⟨rfl, fun h => (hw_31.f c_34) (by (simp only [kt_lt, kt_le, kt_eq, kt_c0 , kt_c1 , kt_c2 , kt_c3 , kt_c4 , kt_c8 , kt_c9 , kt_cm1 , kt_c81 , kt_c40 , kt_c7 , kt_c5 , kt_c6] at *; omega))⟩ | exact Or.inr ⟨rfl, fun h => (hw_41.f c_44) (by (simp only [kt_lt, kt_le, kt_eq, kt_c0 , kt_c1 , kt_c2 , kt_c3 , kt_c4 , kt_c8 , kt_c9 , kt_cm1 , kt_c81 , kt_c40 , kt_c7 , kt_c5 , kt_c6] at *; omega))⟩ | exact Or.inr ⟨rfl, by (simp only [kt_lt, kt_le, kt_eq, kt_c0 , kt_c1 , kt_c2 , kt_c3 , kt_c4 , kt_c8 , kt_c9 , kt_cm1 , kt_c81 , kt_c40 , kt_c7 , kt_c5 , kt_c6] at *; omega)⟩ | exact Or.inl ⟨rfl, by have h1 := hw_10.t c_13; have h2 := hw_31.t c_34; have h3 := hw_41.t c_44; clear hw_10 hw_31 hw_41; (simp only [kt_lt, kt_le, kt_eq, kt_c0 , kt_c1 , kt_c2 , kt_c3 , kt_c4 , kt_c8 , kt_c9 , kt_cm1 , kt_c81 , kt_c40 , kt_c7 , kt_c5 , kt_c6] at *; omega)⟩) rfl
  · refine lv_iload_n hx hb dX11_law_16 rfl (lv_at hl 2 rfl) ?_
    refine lv_iconst (v := 2) hx hb dX11_law_17 (by decide) ?_
    refine kt_join (σ := Unit) 26 6 (fun u => [(mx, .inr (11, [.int 3, .int 3, .ref ms, .int 0, .int 4, .int 0, .int 0, .int 1, .int 0, .int 0, .int 0, .int 0, .ref mk, .ref ma, .ref mo, .ref mg, .ref mm, .ref mt, .int 0, .int 0, .ref mn, .int 0, .ref me, .ref mq, .int 0, .ref mw, .ref md, .ref mf, .ref mr]))]) (fun u => [(0, .ref mx), (1, .int p1), (2, .int p2), (3, .int p3), (4, .int p4), (5, .int p5)]) (fun u => []) (fun u => p2 = 2 ∨ p2 = 4) (D := D) (A := A) (H0 := s.heap) (fun u hI H locs hP hD hS ls hl => ?_) (fun j_26 => ?_)
    · have hP : va_P D vwCl [(mx, .inr (11, [.int 3, .int 3, .ref ms, .int 0, .int 4, .int 0, .int 0, .int 1, .int 0, .int 0, .int 0, .int 0, .ref mk, .ref ma, .ref mo, .ref mg, .ref mm, .ref mt, .int 0, .int 0, .ref mn, .int 0, .ref me, .ref mq, .int 0, .ref mw, .ref md, .ref mf, .ref mr]))] H := hP
      have hD : va_D A [(mx, .inr (11, [.int 3, .int 3, .ref ms, .int 0, .int 4, .int 0, .int 0, .int 1, .int 0, .int 0, .int 0, .int 0, .ref mk, .ref ma, .ref mo, .ref mg, .ref mm, .ref mt, .int 0, .int 0, .ref mn, .int 0, .ref me, .ref mq, .int 0, .ref mw, .ref md, .ref mf, .ref mr]))] := hD
      have hl : lv_has ls 6 [(0, .ref mx), (1, .int p1), (2, .int p2), (3, .int p3), (4, .int p4), (5, .int p5)] := hl
      have hI : p2 = 2 ∨ p2 = 4 := hI
      have hI26 := hI
      refine lv_iload hx hb dX11_law_26 (lv_at hl 4 rfl) ?_
      refine lv_iconst (v := 0) hx hb dX11_law_28 (by decide) ?_
      refine lv_bipush (v := 8) hx hb dX11_law_29 (by decide) ?_
      refine kt_pi (wc := []) [] hP hD hS hA rfl (by decide) (fun hPc hDc => va_runS (As := [.int p4, .int 0, .int 8]) (rest := []) ⟨hx, hb, hml, hown, hts⟩ (c_X11_isIn l D cI cZ cB H.size p4 0 8 ) (va_cwS 3 hts gX11_law_X11_isIn rfl rfl rfl (by decide +kernel) ⟨Nat.le_of_ble_eq_true rfl, Nat.le_of_ble_eq_true rfl⟩) (kt_preS hN hK hPc hDc) rfl rfl hl.1 rfl (lv_room (Nat.le_of_ble_eq_true rfl)) dX11_law_31 ⟨Nat.le_of_ble_eq_true rfl, Nat.le_of_ble_eq_true rfl⟩) (fun r_31 _ H locs hw_31 hP hS => ?_)
      refine lv_if_eq (tgt := 47) hx hb dX11_law_34 (by decide) (fun c_34 => ?_) (fun c_34 => ?_)
      · refine lv_iconst (v := 0) hx hb dX11_law_47 (by decide) ?_
        exact kt_rz (0, 4, 1, 0, 0) hx hb hr hlk hS dX11_law_48 hP hD (by first | exact Or.inr ⟨rfl, fun h => (hw_10.f c_13) (by (simp only [kt_lt, kt_le, kt_eq, kt_c0 , kt_c1 , kt_c2 , kt_c3 , kt_c4 , kt_c8 , kt_c9 , kt_cm1 , kt_c81 , kt_c40 , kt_c7 , kt_c5 , kt_c6] at *; omega))⟩ | exact Or.inr ⟨rfl, fun h => (hw_31.f c_34) (by (simp only [kt_lt, kt_le, kt_eq, kt_c0 , kt_c1 , kt_c2 , kt_c3 , kt_c4 , kt_c8 , kt_c9 , kt_cm1 , kt_c81 , kt_c40 , kt_c7 , kt_c5 , kt_c6] at *; omega))⟩ | exact Or.inr ⟨rfl, fun h => (hw_41.f c_44) (by (simp only [kt_lt, kt_le, kt_eq, kt_c0 , kt_c1 , kt_c2 , kt_c3 , kt_c4 , kt_c8 , kt_c9 , kt_cm1 , kt_c81 , kt_c40 , kt_c7 , kt_c5 , kt_c6] at *; omega))⟩ | exact Or.inr ⟨rfl, by (simp only [kt_lt, kt_le, kt_eq, kt_c0 , kt_c1 , kt_c2 , kt_c3 , kt_c4 , kt_c8 , kt_c9 , kt_cm1 , kt_c81 , kt_c40 , kt_c7 , kt_c5 , kt_c6] at *; omega)⟩ | exact Or.inl ⟨rfl, by have h1 := hw_10.t c_13; have h2 := hw_31.t c_34; have h3 := hw_41.t c_44; clear hw_10 hw_31 hw_41; (simp only [kt_lt, kt_le, kt_eq, kt_c0 , kt_c1 , kt_c2 , kt_c3 , kt_c4 , kt_c8 , kt_c9 , kt_cm1 , kt_c81 , kt_c40 , kt_c7 , kt_c5 , kt_c6] at *; omega)⟩) rfl
      · refine lv_iload hx hb dX11_law_37 (lv_at hl 5 rfl) ?_
        refine lv_iconst (v := 0) hx hb dX11_law_39 (by decide) ?_
        refine lv_iconst (v := 1) hx hb dX11_law_40 (by decide) ?_
        refine kt_pi (wc := []) [] hP hD hS hA rfl (by decide) (fun hPc hDc => va_runS (As := [.int p5, .int 0, .int 1]) (rest := []) ⟨hx, hb, hml, hown, hts⟩ (c_X11_isIn l D cI cZ cB H.size p5 0 1 ) (va_cwS 3 hts gX11_law_X11_isIn rfl rfl rfl (by decide +kernel) ⟨Nat.le_of_ble_eq_true rfl, Nat.le_of_ble_eq_true rfl⟩) (kt_preS hN hK hPc hDc) rfl rfl hl.1 rfl (lv_room (Nat.le_of_ble_eq_true rfl)) dX11_law_41 ⟨Nat.le_of_ble_eq_true rfl, Nat.le_of_ble_eq_true rfl⟩) (fun r_41 _ H locs hw_41 hP hS => ?_)
        refine lv_if_ne (tgt := 49) hx hb dX11_law_44 (by decide) (fun c_44 => ?_) (fun c_44 => ?_)
        · refine lv_aload_n hx hb dX11_law_49 rfl (lv_at hl 0 rfl) ?_
          refine lv_iload_n hx hb dX11_law_50 rfl (lv_at hl 1 rfl) ?_
          refine va_put (D := D) (ci := 11) (v := .int p1) (ty := .int) (C := RX11) (T := TX11) (N := 29) hx hb hts iw_X11_law_X11 tyX11 tyX11_ok nmX11 hown hK hP hD hS 0 rfl rfl 3 (by decide) (hts (.fieldLink RX11 79 "KingTableModel" "goal" "I") (by decide +kernel)) (fun _ h9 => h9) rfl (by decide +kernel) rfl rfl (Nat.le_of_ble_eq_true rfl) dX11_law_51 (fun H locs hP hD hS => ?_)
          have hP : va_P D vwCl [(mx, .inr (11, [.int 3, .int 3, .ref ms, .int p1, .int 4, .int 0, .int 0, .int 1, .int 0, .int 0, .int 0, .int 0, .ref mk, .ref ma, .ref mo, .ref mg, .ref mm, .ref mt, .int 0, .int 0, .ref mn, .int 0, .ref me, .ref mq, .int 0, .ref mw, .ref md, .ref mf, .ref mr]))] H := hP
          have hD : va_D A [(mx, .inr (11, [.int 3, .int 3, .ref ms, .int p1, .int 4, .int 0, .int 0, .int 1, .int 0, .int 0, .int 0, .int 0, .ref mk, .ref ma, .ref mo, .ref mg, .ref mm, .ref mt, .int 0, .int 0, .ref mn, .int 0, .ref me, .ref mq, .int 0, .ref mw, .ref md, .ref mf, .ref mr]))] := hD
          refine lv_aload_n hx hb dX11_law_54 rfl (lv_at hl 0 rfl) ?_
          refine lv_iload_n hx hb dX11_law_55 rfl (lv_at hl 2 rfl) ?_
          refine va_put (D := D) (ci := 11) (v := .int p2) (ty := .int) (C := RX11) (T := TX11) (N := 29) hx hb hts iw_X11_law_X11 tyX11 tyX11_ok nmX11 hown hK hP hD hS 0 rfl rfl 4 (by decide) (hts (.fieldLink RX11 20 "KingTableModel" "hard" "I") (by decide +kernel)) (fun _ h9 => h9) rfl (by decide +kernel) rfl rfl (Nat.le_of_ble_eq_true rfl) dX11_law_56 (fun H locs hP hD hS => ?_)
          have hP : va_P D vwCl [(mx, .inr (11, [.int 3, .int 3, .ref ms, .int p1, .int p2, .int 0, .int 0, .int 1, .int 0, .int 0, .int 0, .int 0, .ref mk, .ref ma, .ref mo, .ref mg, .ref mm, .ref mt, .int 0, .int 0, .ref mn, .int 0, .ref me, .ref mq, .int 0, .ref mw, .ref md, .ref mf, .ref mr]))] H := hP
          have hD : va_D A [(mx, .inr (11, [.int 3, .int 3, .ref ms, .int p1, .int p2, .int 0, .int 0, .int 1, .int 0, .int 0, .int 0, .int 0, .ref mk, .ref ma, .ref mo, .ref mg, .ref mm, .ref mt, .int 0, .int 0, .ref mn, .int 0, .ref me, .ref mq, .int 0, .ref mw, .ref md, .ref mf, .ref mr]))] := hD
          refine lv_aload_n hx hb dX11_law_59 rfl (lv_at hl 0 rfl) ?_
          refine lv_iload_n hx hb dX11_law_60 rfl (lv_at hl 3 rfl) ?_
          refine va_put (D := D) (ci := 11) (v := .int p3) (ty := .boolean) (C := RX11) (T := TX11) (N := 29) hx hb hts iw_X11_law_X11 tyX11 tyX11_ok nmX11 hown hK hP hD hS 0 rfl rfl 7 (by decide) (hts (.fieldLink RX11 23 "KingTableModel" "kingTakes" "Z") (by decide +kernel)) (fun _ h9 => h9) rfl (by decide +kernel) (by exact hz) (by exact hf) (Nat.le_of_ble_eq_true rfl) dX11_law_61 (fun H locs hP hD hS => ?_)
          have hP : va_P D vwCl [(mx, .inr (11, [.int 3, .int 3, .ref ms, .int p1, .int p2, .int 0, .int 0, .int p3, .int 0, .int 0, .int 0, .int 0, .ref mk, .ref ma, .ref mo, .ref mg, .ref mm, .ref mt, .int 0, .int 0, .ref mn, .int 0, .ref me, .ref mq, .int 0, .ref mw, .ref md, .ref mf, .ref mr]))] H := hP
          have hD : va_D A [(mx, .inr (11, [.int 3, .int 3, .ref ms, .int p1, .int p2, .int 0, .int 0, .int p3, .int 0, .int 0, .int 0, .int 0, .ref mk, .ref ma, .ref mo, .ref mg, .ref mm, .ref mt, .int 0, .int 0, .ref mn, .int 0, .ref me, .ref mq, .int 0, .ref mw, .ref md, .ref mf, .ref mr]))] := hD
          refine lv_aload_n hx hb dX11_law_64 rfl (lv_at hl 0 rfl) ?_
          refine lv_iload hx hb dX11_law_65 (lv_at hl 4 rfl) ?_
          refine va_put (D := D) (ci := 11) (v := .int p4) (ty := .int) (C := RX11) (T := TX11) (N := 29) hx hb hts iw_X11_law_X11 tyX11 tyX11_ok nmX11 hown hK hP hD hS 0 rfl rfl 5 (by decide) (hts (.fieldLink RX11 82 "KingTableModel" "reach" "I") (by decide +kernel)) (fun _ h9 => h9) rfl (by decide +kernel) rfl rfl (Nat.le_of_ble_eq_true rfl) dX11_law_67 (fun H locs hP hD hS => ?_)
          have hP : va_P D vwCl [(mx, .inr (11, [.int 3, .int 3, .ref ms, .int p1, .int p2, .int p4, .int 0, .int p3, .int 0, .int 0, .int 0, .int 0, .ref mk, .ref ma, .ref mo, .ref mg, .ref mm, .ref mt, .int 0, .int 0, .ref mn, .int 0, .ref me, .ref mq, .int 0, .ref mw, .ref md, .ref mf, .ref mr]))] H := hP
          have hD : va_D A [(mx, .inr (11, [.int 3, .int 3, .ref ms, .int p1, .int p2, .int p4, .int 0, .int p3, .int 0, .int 0, .int 0, .int 0, .ref mk, .ref ma, .ref mo, .ref mg, .ref mm, .ref mt, .int 0, .int 0, .ref mn, .int 0, .ref me, .ref mq, .int 0, .ref mw, .ref md, .ref mf, .ref mr]))] := hD
          refine lv_aload_n hx hb dX11_law_70 rfl (lv_at hl 0 rfl) ?_
          refine lv_iload hx hb dX11_law_71 (lv_at hl 5 rfl) ?_
          refine va_put (D := D) (ci := 11) (v := .int p5) (ty := .int) (C := RX11) (T := TX11) (N := 29) hx hb hts iw_X11_law_X11 tyX11 tyX11_ok nmX11 hown hK hP hD hS 0 rfl rfl 6 (by decide) (hts (.fieldLink RX11 85 "KingTableModel" "again1" "I") (by decide +kernel)) (fun _ h9 => h9) rfl (by decide +kernel) rfl rfl (Nat.le_of_ble_eq_true rfl) dX11_law_73 (fun H locs hP hD hS => ?_)
          have hP : va_P D vwCl [(mx, .inr (11, [.int 3, .int 3, .ref ms, .int p1, .int p2, .int p4, .int p5, .int p3, .int 0, .int 0, .int 0, .int 0, .ref mk, .ref ma, .ref mo, .ref mg, .ref mm, .ref mt, .int 0, .int 0, .ref mn, .int 0, .ref me, .ref mq, .int 0, .ref mw, .ref md, .ref mf, .ref mr]))] H := hP
          have hD : va_D A [(mx, .inr (11, [.int 3, .int 3, .ref ms, .int p1, .int p2, .int p4, .int p5, .int p3, .int 0, .int 0, .int 0, .int 0, .ref mk, .ref ma, .ref mo, .ref mg, .ref mm, .ref mt, .int 0, .int 0, .ref mn, .int 0, .ref me, .ref mq, .int 0, .ref mw, .ref md, .ref mf, .ref mr]))] := hD
          refine lv_iconst (v := 1) hx hb dX11_law_76 (by decide) ?_
          exact kt_rz (p1, p2, p3, p4, p5) hx hb hr hlk hS dX11_law_77 hP hD (by first | exact Or.inr ⟨rfl, fun h => (hw_10.f c_13) (by (simp only [kt_lt, kt_le, kt_eq, kt_c0 , kt_c1 , kt_c2 , kt_c3 , kt_c4 , kt_c8 , kt_c9 , kt_cm1 , kt_c81 , kt_c40 , kt_c7 , kt_c5 , kt_c6] at *; omega))⟩ | exact Or.inr ⟨rfl, fun h => (hw_31.f c_34) (by (simp only [kt_lt, kt_le, kt_eq, kt_c0 , kt_c1 , kt_c2 , kt_c3 , kt_c4 , kt_c8 , kt_c9 , kt_cm1 , kt_c81 , kt_c40 , kt_c7 , kt_c5 , kt_c6] at *; omega))⟩ | exact Or.inr ⟨rfl, fun h => (hw_41.f c_44) (by (simp only [kt_lt, kt_le, kt_eq, kt_c0 , kt_c1 , kt_c2 , kt_c3 , kt_c4 , kt_c8 , kt_c9 , kt_cm1 , kt_c81 , kt_c40 , kt_c7 , kt_c5 , kt_c6] at *; omega))⟩ | exact Or.inr ⟨rfl, by (simp only [kt_lt, kt_le, kt_eq, kt_c0 , kt_c1 , kt_c2 , kt_c3 , kt_c4 , kt_c8 , kt_c9 , kt_cm1 , kt_c81 , kt_c40 , kt_c7 , kt_c5 , kt_c6] at *; omega)⟩ | exact Or.inl ⟨rfl, by have h1 := hw_10.t c_13; have h2 := hw_31.t c_34; have h3 := hw_41.t c_44; clear hw_10 hw_31 hw_41; (simp only [kt_lt, kt_le, kt_eq, kt_c0 , kt_c1 , kt_c2 , kt_c3 , kt_c4 , kt_c8 , kt_c9 , kt_cm1 , kt_c81 , kt_c40 , kt_c7 , kt_c5 , kt_c6] at *; omega)⟩) rfl
        · refine lv_iconst (v := 0) hx hb dX11_law_47 (by decide) ?_
          exact kt_rz (0, 4, 1, 0, 0) hx hb hr hlk hS dX11_law_48 hP hD (by first | exact Or.inr ⟨rfl, fun h => (hw_10.f c_13) (by (simp only [kt_lt, kt_le, kt_eq, kt_c0 , kt_c1 , kt_c2 , kt_c3 , kt_c4 , kt_c8 , kt_c9 , kt_cm1 , kt_c81 , kt_c40 , kt_c7 , kt_c5 , kt_c6] at *; omega))⟩ | exact Or.inr ⟨rfl, fun h => (hw_31.f c_34) (by (simp only [kt_lt, kt_le, kt_eq, kt_c0 , kt_c1 , kt_c2 , kt_c3 , kt_c4 , kt_c8 , kt_c9 , kt_cm1 , kt_c81 , kt_c40 , kt_c7 , kt_c5 , kt_c6] at *; omega))⟩ | exact Or.inr ⟨rfl, fun h => (hw_41.f c_44) (by (simp only [kt_lt, kt_le, kt_eq, kt_c0 , kt_c1 , kt_c2 , kt_c3 , kt_c4 , kt_c8 , kt_c9 , kt_cm1 , kt_c81 , kt_c40 , kt_c7 , kt_c5 , kt_c6] at *; omega))⟩ | exact Or.inr ⟨rfl, by (simp only [kt_lt, kt_le, kt_eq, kt_c0 , kt_c1 , kt_c2 , kt_c3 , kt_c4 , kt_c8 , kt_c9 , kt_cm1 , kt_c81 , kt_c40 , kt_c7 , kt_c5 , kt_c6] at *; omega)⟩ | exact Or.inl ⟨rfl, by have h1 := hw_10.t c_13; have h2 := hw_31.t c_34; have h3 := hw_41.t c_44; clear hw_10 hw_31 hw_41; (simp only [kt_lt, kt_le, kt_eq, kt_c0 , kt_c1 , kt_c2 , kt_c3 , kt_c4 , kt_c8 , kt_c9 , kt_cm1 , kt_c81 , kt_c40 , kt_c7 , kt_c5 , kt_c6] at *; omega)⟩) rfl
    refine lv_icmp_eq (tgt := 26) hx hb dX11_law_18 (by decide) (fun c_18 => ?_) (fun c_18 => ?_)
    · exact j_26 () (by show p2 = 2 ∨ p2 = 4; first | exact Or.inl c_18 | exact Or.inr c_23) H _ hP hD hS ls (lv_sub hl [0, 1, 2, 3, 4, 5] rfl)
    · refine lv_iload_n hx hb dX11_law_21 rfl (lv_at hl 2 rfl) ?_
      refine lv_iconst (v := 4) hx hb dX11_law_22 (by decide) ?_
      refine lv_icmp_ne (tgt := 47) hx hb dX11_law_23 (by decide) (fun c_23 => ?_) (fun c_23 => ?_)
      · refine lv_iconst (v := 0) hx hb dX11_law_47 (by decide) ?_
        exact kt_rz (0, 4, 1, 0, 0) hx hb hr hlk hS dX11_law_48 hP hD (by first | exact Or.inr ⟨rfl, fun h => (hw_10.f c_13) (by (simp only [kt_lt, kt_le, kt_eq, kt_c0 , kt_c1 , kt_c2 , kt_c3 , kt_c4 , kt_c8 , kt_c9 , kt_cm1 , kt_c81 , kt_c40 , kt_c7 , kt_c5 , kt_c6] at *; omega))⟩ | exact Or.inr ⟨rfl, fun h => (hw_31.f c_34) (by (simp only [kt_lt, kt_le, kt_eq, kt_c0 , kt_c1 , kt_c2 , kt_c3 , kt_c4 , kt_c8 , kt_c9 , kt_cm1 , kt_c81 , kt_c40 , kt_c7 , kt_c5 , kt_c6] at *; omega))⟩ | exact Or.inr ⟨rfl, fun h => (hw_41.f c_44) (by (simp only [kt_lt, kt_le, kt_eq, kt_c0 , kt_c1 , kt_c2 , kt_c3 , kt_c4 , kt_c8 , kt_c9 , kt_cm1 , kt_c81 , kt_c40 , kt_c7 , kt_c5 , kt_c6] at *; omega))⟩ | exact Or.inr ⟨rfl, by (simp only [kt_lt, kt_le, kt_eq, kt_c0 , kt_c1 , kt_c2 , kt_c3 , kt_c4 , kt_c8 , kt_c9 , kt_cm1 , kt_c81 , kt_c40 , kt_c7 , kt_c5 , kt_c6] at *; omega)⟩ | exact Or.inl ⟨rfl, by have h1 := hw_10.t c_13; have h2 := hw_31.t c_34; have h3 := hw_41.t c_44; clear hw_10 hw_31 hw_41; (simp only [kt_lt, kt_le, kt_eq, kt_c0 , kt_c1 , kt_c2 , kt_c3 , kt_c4 , kt_c8 , kt_c9 , kt_cm1 , kt_c81 , kt_c40 , kt_c7 , kt_c5 , kt_c6] at *; omega)⟩) rfl
      · exact j_26 () (by show p2 = 2 ∨ p2 = 4; first | exact Or.inl c_18 | exact Or.inr c_23) H _ hP hD hS ls (lv_sub hl [0, 1, 2, 3, 4, 5] rfl)

theorem iw_X11_begin_X11 : ∀ w ∈ wsX110, w ∈ wsX11_begin := by decide +kernel
set_option maxHeartbeats 4000000 in
set_option maxRecDepth 100000 in
theorem f_X11_begin (l : Launch) (D : va_G) (cI cZ cB : ClassId) (sz : Nat) (mx : Nat) (ms : Nat) (mk : Nat) (ma : Nat) (mo : Nat) (mg : Nat) (mm : Nat) (mt : Nat) (mn : Nat) (me : Nat) (mq : Nat) (mw : Nat) (md : Nat) (mf : Nat) (mr : Nat) (p1 : Int32) : kt_Mi l yX11_begin wsX11_begin { frames := 1, cells := 0, slots := 0, locals := 22 } D (kt_ty cI cZ cB) [.ref mx, .int p1] sz [(mx, .inr (11, [.int 3, .int 3, .ref ms, .int 0, .int 4, .int 0, .int 0, .int 1, .int 0, .int 0, .int 0, .int 0, .ref mk, .ref ma, .ref mo, .ref mg, .ref mm, .ref mt, .int 0, .int 0, .ref mn, .int 0, .ref me, .ref mq, .int 0, .ref mw, .ref md, .ref mf, .ref mr])), (ms, .inl (cI, 81, .inl (fun _ => 0)))] (fun (r : Int32) (u : Unit) => r = (-1)) (fun (u : Unit) => [(mx, .inr (11, [.int 3, .int 3, .ref ms, .int 0, .int 4, .int 0, .int 0, .int 1, .int 0, .int 0, .int 0, .int 0, .ref mk, .ref ma, .ref mo, .ref mg, .ref mm, .ref mt, .int 0, .int 0, .ref mn, .int 0, .ref me, .ref mq, .int 0, .ref mw, .ref md, .ref mf, .ref mr])), (ms, .inl (cI, 81, .inl (fun _ => 0)))]) 0 0 := by
  refine kt_Mi.of (cc := cX11_begin) (maxL := 8) (ret := some .int) (by decide) rfl (Nat.le_of_ble_eq_true rfl) ?_
  intro p e s m below meth c A ls H hAt hP hD hS hl
  obtain ⟨hx, hb, hr, hml, hown, hts, hN, hK, hlk, hnm, hA⟩ := hAt
  have hl : lv_has ls 8 [(0, .ref mx), (1, .int p1)] := hl
  have hown : s.vm.findClass RX11 = some m.cls := hown
  refine lv_aload_n hx hb dX11_begin_0 rfl (lv_at hl 0 rfl) ?_
  refine va_get (D := D) (ci := 11) (C := RX11) (T := TX11) (N := 29) hx hb hts iw_X11_begin_X11 hown hK hP 0 rfl rfl 8 (by decide) (hts (.fieldLink RX11 73 "KingTableModel" "how" "I") (by decide +kernel)) (fun _ h9 => h9) rfl dX11_begin_1 ?_
  refine lv_if_gt (tgt := 16) hx hb dX11_begin_4 (by decide) (fun c_4 => absurd c_4 (by decide)) (fun c_4 => ?_)
  refine lv_iload_n hx hb dX11_begin_7 rfl (lv_at hl 1 rfl) ?_
  refine lv_iconst (v := 0) hx hb dX11_begin_8 (by decide) ?_
  refine lv_iconst (v := 1) hx hb dX11_begin_9 (by decide) ?_
  refine kt_pi (wc := []) [] hP hD hS hA rfl (by decide) (fun hPc hDc => va_runS (As := [.int p1, .int 0, .int 1]) (rest := []) ⟨hx, hb, hml, hown, hts⟩ (c_X11_isIn l D cI cZ cB H.size p1 0 1 ) (va_cwS 3 hts gX11_begin_X11_isIn rfl rfl rfl (by decide +kernel) ⟨Nat.le_of_ble_eq_true rfl, Nat.le_of_ble_eq_true rfl⟩) (kt_preS hN hK hPc hDc) rfl rfl hl.1 rfl (lv_room (Nat.le_of_ble_eq_true rfl)) dX11_begin_10 ⟨Nat.le_of_ble_eq_true rfl, Nat.le_of_ble_eq_true rfl⟩) (fun r_10 _ H locs hw_10 hP hS => ?_)
  refine lv_if_ne (tgt := 18) hx hb dX11_begin_13 (by decide) (fun c_13 => ?_) (fun c_13 => ?_)
  · refine lv_iconst (v := 0) hx hb dX11_begin_18 (by decide) ?_
    refine lv_istore_n (lv' := [(2, .int 0), (0, .ref mx), (1, .int p1)]) hx hb dX11_begin_19 rfl hl (by decide) rfl (fun ls hl => ?_)
    refine lv_iconst (v := 0) hx hb dX11_begin_20 (by decide) ?_
    refine lv_istore_n (lv' := [(3, .int 0), (2, .int 0), (0, .ref mx), (1, .int p1)]) hx hb dX11_begin_21 rfl hl (by decide) rfl (fun ls hl => ?_)
    refine lv_iconst (v := 0) hx hb dX11_begin_22 (by decide) ?_
    refine lv_istore (lv' := [(4, .int 0), (3, .int 0), (2, .int 0), (0, .ref mx), (1, .int p1)]) hx hb dX11_begin_23 hl (by decide) rfl (fun ls hl => ?_)
    refine lv_iconst (v := 0) hx hb dX11_begin_25 (by decide) ?_
    refine lv_istore (lv' := [(5, .int 0), (4, .int 0), (3, .int 0), (2, .int 0), (0, .ref mx), (1, .int p1)]) hx hb dX11_begin_26 hl (by decide) rfl (fun ls hl => ?_)
    refine lv_iconst (v := 0) hx hb dX11_begin_28 (by decide) ?_
    refine lv_istore (lv' := [(6, .int 0), (5, .int 0), (4, .int 0), (3, .int 0), (2, .int 0), (0, .ref mx), (1, .int p1)]) hx hb dX11_begin_29 hl (by decide) rfl (fun ls hl => ?_)
    refine kt_loop (σ := Nat) 31 8 (fun u => [(mx, .inr (11, [.int 3, .int 3, .ref ms, .int 0, .int 4, .int 0, .int 0, .int 1, .int 0, .int 0, .int 0, .int 0, .ref mk, .ref ma, .ref mo, .ref mg, .ref mm, .ref mt, .int 0, .int 0, .ref mn, .int 0, .ref me, .ref mq, .int 0, .ref mw, .ref md, .ref mf, .ref mr])), (ms, .inl (cI, 81, .inl (fun _ => 0)))]) (fun u => [(6, .int (nI u)), (5, .int 0), (4, .int 0), (3, .int 0), (2, .int 0), (0, .ref mx), (1, .int p1)]) (fun n u => u ≤ 9 ∧ 9 < u + n) (fun u h => by omega) (fun n ih_31 u hI H locs hP hD hS ls hl => ?_) (10) 0 (by show 0 ≤ 9 ∧ 9 < 0 + 10; exact ⟨by decide, by decide⟩) hP hD hS (lv_sub hl [0, 1, 2, 3, 4, 5, 6] rfl)
    obtain ⟨k, rfl⟩ : ∃ z, z = u := ⟨_, rfl⟩
    have hP : va_P D vwCl [(mx, .inr (11, [.int 3, .int 3, .ref ms, .int 0, .int 4, .int 0, .int 0, .int 1, .int 0, .int 0, .int 0, .int 0, .ref mk, .ref ma, .ref mo, .ref mg, .ref mm, .ref mt, .int 0, .int 0, .ref mn, .int 0, .ref me, .ref mq, .int 0, .ref mw, .ref md, .ref mf, .ref mr])), (ms, .inl (cI, 81, .inl (fun _ => 0)))] H := hP
    have hD : va_D A [(mx, .inr (11, [.int 3, .int 3, .ref ms, .int 0, .int 4, .int 0, .int 0, .int 1, .int 0, .int 0, .int 0, .int 0, .ref mk, .ref ma, .ref mo, .ref mg, .ref mm, .ref mt, .int 0, .int 0, .ref mn, .int 0, .ref me, .ref mq, .int 0, .ref mw, .ref md, .ref mf, .ref mr])), (ms, .inl (cI, 81, .inl (fun _ => 0)))] := hD
    have hl : lv_has ls 8 [(6, .int (nI k)), (5, .int 0), (4, .int 0), (3, .int 0), (2, .int 0), (0, .ref mx), (1, .int p1)] := hl
    have hI : k ≤ 9 ∧ 9 < k + (n + 1) := hI
    refine lv_iload hx hb dX11_begin_31 (lv_at hl 0 rfl) ?_
    refine lv_aload_n hx hb dX11_begin_33 rfl (lv_at hl 5 rfl) ?_
    refine kt_pi (wc := [(mx, .inr (11, [.int 3, .int 3, .ref ms, .int 0, .int 4, .int 0, .int 0, .int 1, .int 0, .int 0, .int 0, .int 0, .ref mk, .ref ma, .ref mo, .ref mg, .ref mm, .ref mt, .int 0, .int 0, .ref mn, .int 0, .ref me, .ref mq, .int 0, .ref mw, .ref md, .ref mf, .ref mr]))]) [0] hP hD hS hA rfl (by decide) (fun hPc hDc => va_runV (As := []) (rest := [.int (nI k)]) ⟨hx, hb, hml, hown, hts⟩ (f_X11_fields l D cI cZ cB H.size mx ms mk ma mo mg mm mt mn me mq mw md mf mr ) (cwV 0 hts gX11_begin_X11_fields rfl rfl rfl (by decide +kernel) ⟨Nat.le_of_ble_eq_true rfl, Nat.le_of_ble_eq_true rfl⟩) (kt_preV hN hK hPc hDc 0 (ci := 11) (q := (RX11, TX11, 29)) rfl rfl) rfl rfl hl.1 rfl (lv_room (Nat.le_of_ble_eq_true rfl)) dX11_begin_34 ⟨Nat.le_of_ble_eq_true rfl, Nat.le_of_ble_eq_true rfl⟩) (fun r_34 _ H locs hw_34 hP hS => ?_)
    subst hw_34
    refine lv_icmp_ge (tgt := 147) hx hb dX11_begin_37 (by decide) (fun c_37 => ?_) (fun c_37 => ?_)
    · refine lv_iload_n hx hb dX11_begin_147 rfl (lv_at hl 4 rfl) ?_
      refine lv_iconst (v := 1) hx hb dX11_begin_148 (by decide) ?_
      refine lv_icmp_ne (tgt := 169) hx hb dX11_begin_149 (by decide) (fun c_149 => ?_) (fun c_149 => absurd c_149 (by decide))
      refine lv_iconst (v := (-1)) hx hb dX11_begin_169 (by decide) ?_
      exact kt_ri () hx hb hr hlk hS dX11_begin_170 hP hD (by rfl)
    · have hk : k < 9 := by
        rcases Nat.lt_or_ge k 9 with q | q
        · exact q
        · exact absurd (nI_le q (by omega)) c_37
      refine lv_aload_n hx hb dX11_begin_40 rfl (lv_at hl 5 rfl) ?_
      refine va_get (D := D) (ci := 11) (C := RX11) (T := TX11) (N := 29) hx hb hts iw_X11_begin_X11 hown hK hP 0 rfl rfl 2 (by decide) (hts (.fieldLink RX11 16 "KingTableModel" "signs" "[I") (by decide +kernel)) (fun _ h9 => h9) rfl dX11_begin_41 ?_
      refine lv_iload hx hb dX11_begin_44 (lv_at hl 0 rfl) ?_
      have hi_1 : vp_in (nI k) 81 := by exact vp_in_nI (by omega) (by omega)
      refine va_iald hx hb hK hP 1 0 rfl rfl hi_1 dX11_begin_46 ?_
      refine W.eq (g2 := F0 m 47 ls [.int 0]) rfl ?_
      refine lv_istore (lv' := [(7, .int 0), (6, .int (nI k)), (5, .int 0), (4, .int 0), (3, .int 0), (2, .int 0), (0, .ref mx), (1, .int p1)]) hx hb dX11_begin_47 hl (by decide) rfl (fun ls hl => ?_)
      refine lv_iload_n hx hb dX11_begin_49 rfl (lv_at hl 5 rfl) ?_
      refine lv_iload hx hb dX11_begin_50 (lv_at hl 0 rfl) ?_
      refine lv_iconst (v := 2) hx hb dX11_begin_52 (by decide) ?_
      refine lv_icmp_eq (tgt := 63) hx hb dX11_begin_53 (by decide) (fun c_53 => absurd c_53 (by decide)) (fun c_53 => ?_)
      refine lv_iload hx hb dX11_begin_56 (lv_at hl 0 rfl) ?_
      refine lv_bipush (v := 7) hx hb dX11_begin_58 (by decide) ?_
      refine lv_icmp_ne (tgt := 67) hx hb dX11_begin_60 (by decide) (fun c_60 => ?_) (fun c_60 => absurd c_60 (by decide))
      refine lv_iconst (v := 0) hx hb dX11_begin_67 (by decide) ?_
      refine lv_iadd hx hb dX11_begin_68 ?_
      refine W.eq (g2 := F0 m 69 ls (.int 0 :: [])) rfl ?_
      refine lv_istore_n (lv' := [(2, .int 0), (7, .int 0), (6, .int (nI k)), (5, .int 0), (4, .int 0), (3, .int 0), (0, .ref mx), (1, .int p1)]) hx hb dX11_begin_69 rfl hl (by decide) rfl (fun ls hl => ?_)
      refine lv_iload_n hx hb dX11_begin_70 rfl (lv_at hl 5 rfl) ?_
      refine lv_iload hx hb dX11_begin_71 (lv_at hl 1 rfl) ?_
      refine lv_iconst (v := 3) hx hb dX11_begin_73 (by decide) ?_
      refine lv_icmp_eq (tgt := 83) hx hb dX11_begin_74 (by decide) (fun c_74 => absurd c_74 (by decide)) (fun c_74 => ?_)
      refine lv_iload hx hb dX11_begin_77 (lv_at hl 1 rfl) ?_
      refine lv_iconst (v := 4) hx hb dX11_begin_79 (by decide) ?_
      refine lv_icmp_ne (tgt := 87) hx hb dX11_begin_80 (by decide) (fun c_80 => ?_) (fun c_80 => absurd c_80 (by decide))
      refine lv_iconst (v := 0) hx hb dX11_begin_87 (by decide) ?_
      refine lv_iadd hx hb dX11_begin_88 ?_
      refine W.eq (g2 := F0 m 89 ls (.int 0 :: [])) rfl ?_
      refine lv_istore_n (lv' := [(3, .int 0), (2, .int 0), (7, .int 0), (6, .int (nI k)), (5, .int 0), (4, .int 0), (0, .ref mx), (1, .int p1)]) hx hb dX11_begin_89 rfl hl (by decide) rfl (fun ls hl => ?_)
      refine lv_iload hx hb dX11_begin_90 (lv_at hl 5 rfl) ?_
      refine lv_iload hx hb dX11_begin_92 (lv_at hl 2 rfl) ?_
      refine lv_iconst (v := 5) hx hb dX11_begin_94 (by decide) ?_
      refine lv_icmp_eq (tgt := 105) hx hb dX11_begin_95 (by decide) (fun c_95 => absurd c_95 (by decide)) (fun c_95 => ?_)
      refine lv_iload hx hb dX11_begin_98 (lv_at hl 2 rfl) ?_
      refine lv_bipush (v := 7) hx hb dX11_begin_100 (by decide) ?_
      refine lv_icmp_ne (tgt := 109) hx hb dX11_begin_102 (by decide) (fun c_102 => ?_) (fun c_102 => absurd c_102 (by decide))
      refine lv_iconst (v := 0) hx hb dX11_begin_109 (by decide) ?_
      refine lv_iadd hx hb dX11_begin_110 ?_
      refine W.eq (g2 := F0 m 111 ls (.int 0 :: [])) rfl ?_
      refine lv_istore (lv' := [(4, .int 0), (3, .int 0), (2, .int 0), (7, .int 0), (6, .int (nI k)), (5, .int 0), (0, .ref mx), (1, .int p1)]) hx hb dX11_begin_111 hl (by decide) rfl (fun ls hl => ?_)
      refine lv_iload hx hb dX11_begin_113 (lv_at hl 5 rfl) ?_
      refine lv_iload hx hb dX11_begin_115 (lv_at hl 3 rfl) ?_
      refine lv_if_eq (tgt := 137) hx hb dX11_begin_117 (by decide) (fun c_117 => ?_) (fun c_117 => absurd c_117 (by decide))
      refine lv_iconst (v := 0) hx hb dX11_begin_137 (by decide) ?_
      refine lv_iadd hx hb dX11_begin_138 ?_
      refine W.eq (g2 := F0 m 139 ls (.int 0 :: [])) rfl ?_
      refine lv_istore (lv' := [(5, .int 0), (4, .int 0), (3, .int 0), (2, .int 0), (7, .int 0), (6, .int (nI k)), (0, .ref mx), (1, .int p1)]) hx hb dX11_begin_139 hl (by decide) rfl (fun ls hl => ?_)
      refine lv_iinc (v := nI (k + 1)) (lv' := [(6, .int (nI (k + 1))), (5, .int 0), (4, .int 0), (3, .int 0), (2, .int 0), (7, .int 0), (0, .ref mx), (1, .int p1)]) hx hb dX11_begin_141 hl (k := 5) rfl (nI_1 _) (by decide) rfl (fun ls hl => ?_)
      refine lv_goto (tgt := 31) hx hb dX11_begin_144 (by decide) ?_
      exact ih_31 (k + 1) (by show (k + 1) ≤ 9 ∧ 9 < (k + 1) + n; omega) H _ hP hD hS ls (lv_sub hl [0, 1, 2, 3, 4, 6, 7] rfl)
  · refine lv_iconst (v := (-1)) hx hb dX11_begin_16 (by decide) ?_
    exact kt_ri () hx hb hr hlk hS dX11_begin_17 hP hD (by rfl)

theorem iw_X11_stop_X11 : ∀ w ∈ wsX110, w ∈ wsX11_stop := by decide +kernel
set_option maxHeartbeats 4000000 in
set_option maxRecDepth 100000 in
theorem f_X11_stop (l : Launch) (D : va_G) (cI cZ cB : ClassId) (sz : Nat) (mx : Nat) (ms : Nat) (mk : Nat) (ma : Nat) (mo : Nat) (mg : Nat) (mm : Nat) (mt : Nat) (mn : Nat) (me : Nat) (mq : Nat) (mw : Nat) (md : Nat) (mf : Nat) (mr : Nat) : kt_Mi l yX11_stop wsX11_stop { frames := 0, cells := 0, slots := 0, locals := 0 } D (kt_ty cI cZ cB) [.ref mx] sz [(mx, .inr (11, [.int 3, .int 3, .ref ms, .int 0, .int 4, .int 0, .int 0, .int 1, .int 0, .int 0, .int 0, .int 0, .ref mk, .ref ma, .ref mo, .ref mg, .ref mm, .ref mt, .int 0, .int 0, .ref mn, .int 0, .ref me, .ref mq, .int 0, .ref mw, .ref md, .ref mf, .ref mr]))] (fun (r : Int32) (u : Unit) => r = 0) (fun (u : Unit) => [(mx, .inr (11, [.int 3, .int 3, .ref ms, .int 0, .int 4, .int 0, .int 0, .int 1, .int 0, .int 0, .int 0, .int 0, .ref mk, .ref ma, .ref mo, .ref mg, .ref mm, .ref mt, .int 0, .int 0, .ref mn, .int 0, .ref me, .ref mq, .int 0, .ref mw, .ref md, .ref mf, .ref mr]))]) 0 0 := by
  refine kt_Mi.of (cc := cX11_stop) (maxL := 1) (ret := some .boolean) (by decide) rfl (Nat.le_of_ble_eq_true rfl) ?_
  intro p e s m below meth c A ls H hAt hP hD hS hl
  obtain ⟨hx, hb, hr, hml, hown, hts, hN, hK, hlk, hnm, hA⟩ := hAt
  have hl : lv_has ls 1 [(0, .ref mx)] := hl
  have hown : s.vm.findClass RX11 = some m.cls := hown
  refine lv_aload_n hx hb dX11_stop_0 rfl (lv_at hl 0 rfl) ?_
  refine va_get (D := D) (ci := 11) (C := RX11) (T := TX11) (N := 29) hx hb hts iw_X11_stop_X11 hown hK hP 0 rfl rfl 8 (by decide) (hts (.fieldLink RX11 73 "KingTableModel" "how" "I") (by decide +kernel)) (fun _ h9 => h9) rfl dX11_stop_1 ?_
  refine lv_if_ne (tgt := 9) hx hb dX11_stop_4 (by decide) (fun c_4 => absurd c_4 (by decide)) (fun c_4 => ?_)
  refine lv_iconst (v := 0) hx hb dX11_stop_7 (by decide) ?_
  exact kt_rz () hx hb hr hlk hS dX11_stop_8 hP hD (by rfl) rfl

theorem iw_X11_why_X11 : ∀ w ∈ wsX110, w ∈ wsX11_why := by decide +kernel
set_option maxHeartbeats 4000000 in
set_option maxRecDepth 100000 in
theorem f_X11_why (l : Launch) (D : va_G) (cI cZ cB : ClassId) (sz : Nat) (mx : Nat) (ms : Nat) (mk : Nat) (ma : Nat) (mo : Nat) (mg : Nat) (mm : Nat) (mt : Nat) (mn : Nat) (me : Nat) (mq : Nat) (mw : Nat) (md : Nat) (mf : Nat) (mr : Nat) (p1 : Int32) (p2 : Int32) (p3 : Int32) : kt_Mi l yX11_why wsX11_why { frames := 0, cells := 0, slots := 0, locals := 0 } D (kt_ty cI cZ cB) [.ref mx, .int p1, .int p2, .int p3] sz [(mx, .inr (11, [.int 3, .int 3, .ref ms, .int 0, .int 4, .int 0, .int 0, .int 1, .int 0, .int 0, .int 0, .int 0, .ref mk, .ref ma, .ref mo, .ref mg, .ref mm, .ref mt, .int 0, .int 0, .ref mn, .int 0, .ref me, .ref mq, .int 0, .ref mw, .ref md, .ref mf, .ref mr]))] (fun (r : Int32) (u : Unit) => r = 1) (fun (u : Unit) => [(mx, .inr (11, [.int 3, .int 3, .ref ms, .int 0, .int 4, .int 0, .int 0, .int 1, .int 0, .int 0, .int 0, .int 0, .ref mk, .ref ma, .ref mo, .ref mg, .ref mm, .ref mt, .int 0, .int 0, .ref mn, .int 0, .ref me, .ref mq, .int 0, .ref mw, .ref md, .ref mf, .ref mr]))]) 0 0 := by
  refine kt_Mi.of (cc := cX11_why) (maxL := 6) (ret := some .int) (by decide) rfl (Nat.le_of_ble_eq_true rfl) ?_
  intro p e s m below meth c A ls H hAt hP hD hS hl
  obtain ⟨hx, hb, hr, hml, hown, hts, hN, hK, hlk, hnm, hA⟩ := hAt
  have hl : lv_has ls 6 [(0, .ref mx), (1, .int p1), (2, .int p2), (3, .int p3)] := hl
  have hown : s.vm.findClass RX11 = some m.cls := hown
  refine lv_aload_n hx hb dX11_why_0 rfl (lv_at hl 0 rfl) ?_
  refine va_get (D := D) (ci := 11) (C := RX11) (T := TX11) (N := 29) hx hb hts iw_X11_why_X11 hown hK hP 0 rfl rfl 8 (by decide) (hts (.fieldLink RX11 73 "KingTableModel" "how" "I") (by decide +kernel)) (fun _ h9 => h9) rfl dX11_why_1 ?_
  refine lv_iconst (v := 1) hx hb dX11_why_4 (by decide) ?_
  refine lv_icmp_eq (tgt := 10) hx hb dX11_why_5 (by decide) (fun c_5 => absurd c_5 (by decide)) (fun c_5 => ?_)
  refine lv_iconst (v := 1) hx hb dX11_why_8 (by decide) ?_
  exact kt_ri () hx hb hr hlk hS dX11_why_9 hP hD (by rfl)

set_option maxHeartbeats 4000000 in
set_option maxRecDepth 100000 in
theorem f_X11_go (l : Launch) (D : va_G) (cI cZ cB : ClassId) (sz : Nat) (mx : Nat) (ms : Nat) (mk : Nat) (ma : Nat) (mo : Nat) (mg : Nat) (mm : Nat) (mt : Nat) (mn : Nat) (me : Nat) (mq : Nat) (mw : Nat) (md : Nat) (mf : Nat) (mr : Nat) (p1 : Int32) (p2 : Int32) (p3 : Int32) : kt_Mi l yX11_go wsX11_go { frames := 1, cells := 0, slots := 0, locals := 25 } D (kt_ty cI cZ cB) [.ref mx, .int p1, .int p2, .int p3] sz [(mx, .inr (11, [.int 3, .int 3, .ref ms, .int 0, .int 4, .int 0, .int 0, .int 1, .int 0, .int 0, .int 0, .int 0, .ref mk, .ref ma, .ref mo, .ref mg, .ref mm, .ref mt, .int 0, .int 0, .ref mn, .int 0, .ref me, .ref mq, .int 0, .ref mw, .ref md, .ref mf, .ref mr]))] (fun (r : Int32) (u : Unit) => r = (-1)) (fun (u : Unit) => [(mx, .inr (11, [.int 3, .int 3, .ref ms, .int 0, .int 4, .int 0, .int 0, .int 1, .int 0, .int 0, .int 0, .int 0, .ref mk, .ref ma, .ref mo, .ref mg, .ref mm, .ref mt, .int 0, .int 0, .ref mn, .int 0, .ref me, .ref mq, .int 0, .ref mw, .ref md, .ref mf, .ref mr]))]) 0 0 := by
  refine kt_Mi.of (cc := cX11_go) (maxL := 4) (ret := some .int) (by decide) rfl (Nat.le_of_ble_eq_true rfl) ?_
  intro p e s m below meth c A ls H hAt hP hD hS hl
  obtain ⟨hx, hb, hr, hml, hown, hts, hN, hK, hlk, hnm, hA⟩ := hAt
  have hl : lv_has ls 4 [(0, .ref mx), (1, .int p1), (2, .int p2), (3, .int p3)] := hl
  have hown : s.vm.findClass RX11 = some m.cls := hown
  refine lv_aload_n hx hb dX11_go_0 rfl (lv_at hl 0 rfl) ?_
  refine lv_iload_n hx hb dX11_go_1 rfl (lv_at hl 1 rfl) ?_
  refine lv_iload_n hx hb dX11_go_2 rfl (lv_at hl 2 rfl) ?_
  refine lv_iload_n hx hb dX11_go_3 rfl (lv_at hl 3 rfl) ?_
  refine kt_pi (wc := [(mx, .inr (11, [.int 3, .int 3, .ref ms, .int 0, .int 4, .int 0, .int 0, .int 1, .int 0, .int 0, .int 0, .int 0, .ref mk, .ref ma, .ref mo, .ref mg, .ref mm, .ref mt, .int 0, .int 0, .ref mn, .int 0, .ref me, .ref mq, .int 0, .ref mw, .ref md, .ref mf, .ref mr]))]) [0] hP hD hS hA rfl (by decide) (fun hPc hDc => va_runV (As := [.int p1, .int p2, .int p3]) (rest := []) ⟨hx, hb, hml, hown, hts⟩ (f_X11_why l D cI cZ cB H.size mx ms mk ma mo mg mm mt mn me mq mw md mf mr p1 p2 p3 ) (cwV 3 hts gX11_go_X11_why rfl rfl rfl (by decide +kernel) ⟨Nat.le_of_ble_eq_true rfl, Nat.le_of_ble_eq_true rfl⟩) (kt_preV hN hK hPc hDc 0 (ci := 11) (q := (RX11, TX11, 29)) rfl rfl) rfl rfl hl.1 rfl (lv_room (Nat.le_of_ble_eq_true rfl)) dX11_go_4 ⟨Nat.le_of_ble_eq_true rfl, Nat.le_of_ble_eq_true rfl⟩) (fun r_4 _ H locs hw_4 hP hS => ?_)
  subst hw_4
  refine lv_if_eq (tgt := 12) hx hb dX11_go_7 (by decide) (fun c_7 => absurd c_7 (by decide)) (fun c_7 => ?_)
  refine lv_iconst (v := (-1)) hx hb dX11_go_10 (by decide) ?_
  exact kt_ri () hx hb hr hlk hS dX11_go_11 hP hD (by rfl)

theorem iw_X11_piece_X11 : ∀ w ∈ wsX110, w ∈ wsX11_piece := by decide +kernel
set_option maxHeartbeats 4000000 in
set_option maxRecDepth 100000 in
theorem f_X11_piece (l : Launch) (D : va_G) (cI cZ cB : ClassId) (sz : Nat) (mx : Nat) (ms : Nat) (mk : Nat) (ma : Nat) (mo : Nat) (mg : Nat) (mm : Nat) (mt : Nat) (mn : Nat) (me : Nat) (mq : Nat) (mw : Nat) (md : Nat) (mf : Nat) (mr : Nat) (p1 : Int32) (p2 : Int32) : kt_Mi l yX11_piece wsX11_piece { frames := 0, cells := 0, slots := 0, locals := 0 } D (kt_ty cI cZ cB) [.ref mx, .int p1, .int p2] sz [(mx, .inr (11, [.int 3, .int 3, .ref ms, .int 0, .int 4, .int 0, .int 0, .int 1, .int 0, .int 0, .int 0, .int 0, .ref mk, .ref ma, .ref mo, .ref mg, .ref mm, .ref mt, .int 0, .int 0, .ref mn, .int 0, .ref me, .ref mq, .int 0, .ref mw, .ref md, .ref mf, .ref mr]))] (fun (r : Int32) (u : Unit) => r = (-1)) (fun (u : Unit) => [(mx, .inr (11, [.int 3, .int 3, .ref ms, .int 0, .int 4, .int 0, .int 0, .int 1, .int 0, .int 0, .int 0, .int 0, .ref mk, .ref ma, .ref mo, .ref mg, .ref mm, .ref mt, .int 0, .int 0, .ref mn, .int 0, .ref me, .ref mq, .int 0, .ref mw, .ref md, .ref mf, .ref mr]))]) 0 0 := by
  refine kt_Mi.of (cc := cX11_piece) (maxL := 3) (ret := some .int) (by decide) rfl (Nat.le_of_ble_eq_true rfl) ?_
  intro p e s m below meth c A ls H hAt hP hD hS hl
  obtain ⟨hx, hb, hr, hml, hown, hts, hN, hK, hlk, hnm, hA⟩ := hAt
  have hl : lv_has ls 3 [(0, .ref mx), (1, .int p1), (2, .int p2)] := hl
  have hown : s.vm.findClass RX11 = some m.cls := hown
  refine lv_aload_n hx hb dX11_piece_0 rfl (lv_at hl 0 rfl) ?_
  refine va_get (D := D) (ci := 11) (C := RX11) (T := TX11) (N := 29) hx hb hts iw_X11_piece_X11 hown hK hP 0 rfl rfl 8 (by decide) (hts (.fieldLink RX11 73 "KingTableModel" "how" "I") (by decide +kernel)) (fun _ h9 => h9) rfl dX11_piece_1 ?_
  refine lv_if_eq (tgt := 21) hx hb dX11_piece_4 (by decide) (fun c_4 => ?_) (fun c_4 => absurd c_4 (by decide))
  refine lv_iconst (v := (-1)) hx hb dX11_piece_21 (by decide) ?_
  exact kt_ri () hx hb hr hlk hS dX11_piece_22 hP hD (by rfl)

theorem iw_X11_on_X11 : ∀ w ∈ wsX110, w ∈ wsX11_on := by decide +kernel
set_option maxHeartbeats 4000000 in
set_option maxRecDepth 100000 in
theorem f_X11_on (l : Launch) (D : va_G) (cI cZ cB : ClassId) (sz : Nat) (mx : Nat) (ms : Nat) (mk : Nat) (ma : Nat) (mo : Nat) (mg : Nat) (mm : Nat) (mt : Nat) (mn : Nat) (me : Nat) (mq : Nat) (mw : Nat) (md : Nat) (mf : Nat) (mr : Nat) (p1 : Int32) : kt_Mi l yX11_on wsX11_on { frames := 0, cells := 0, slots := 0, locals := 0 } D (kt_ty cI cZ cB) [.ref mx, .int p1] sz [(mx, .inr (11, [.int 3, .int 3, .ref ms, .int 0, .int 4, .int 0, .int 0, .int 1, .int 0, .int 0, .int 0, .int 0, .ref mk, .ref ma, .ref mo, .ref mg, .ref mm, .ref mt, .int 0, .int 0, .ref mn, .int 0, .ref me, .ref mq, .int 0, .ref mw, .ref md, .ref mf, .ref mr]))] (fun (r : Int32) (u : Unit) => r = (-1)) (fun (u : Unit) => [(mx, .inr (11, [.int 3, .int 3, .ref ms, .int 0, .int 4, .int 0, .int 0, .int 1, .int 0, .int 0, .int 0, .int 0, .ref mk, .ref ma, .ref mo, .ref mg, .ref mm, .ref mt, .int 0, .int 0, .ref mn, .int 0, .ref me, .ref mq, .int 0, .ref mw, .ref md, .ref mf, .ref mr]))]) 0 0 := by
  refine kt_Mi.of (cc := cX11_on) (maxL := 2) (ret := some .int) (by decide) rfl (Nat.le_of_ble_eq_true rfl) ?_
  intro p e s m below meth c A ls H hAt hP hD hS hl
  obtain ⟨hx, hb, hr, hml, hown, hts, hN, hK, hlk, hnm, hA⟩ := hAt
  have hl : lv_has ls 2 [(0, .ref mx), (1, .int p1)] := hl
  have hown : s.vm.findClass RX11 = some m.cls := hown
  refine lv_aload_n hx hb dX11_on_0 rfl (lv_at hl 0 rfl) ?_
  refine va_get (D := D) (ci := 11) (C := RX11) (T := TX11) (N := 29) hx hb hts iw_X11_on_X11 hown hK hP 0 rfl rfl 8 (by decide) (hts (.fieldLink RX11 73 "KingTableModel" "how" "I") (by decide +kernel)) (fun _ h9 => h9) rfl dX11_on_1 ?_
  refine lv_if_le (tgt := 30) hx hb dX11_on_4 (by decide) (fun c_4 => ?_) (fun c_4 => absurd c_4 (by decide))
  refine lv_iconst (v := (-1)) hx hb dX11_on_30 (by decide) ?_
  exact kt_ri () hx hb hr hlk hS dX11_on_31 hP hD (by rfl)

theorem iw_X11_field_X11 : ∀ w ∈ wsX110, w ∈ wsX11_field := by decide +kernel
set_option maxHeartbeats 4000000 in
set_option maxRecDepth 100000 in
theorem f_X11_field (l : Launch) (D : va_G) (cI cZ cB : ClassId) (sz : Nat) (mx : Nat) (ms : Nat) (mk : Nat) (ma : Nat) (mo : Nat) (mg : Nat) (mm : Nat) (mt : Nat) (mn : Nat) (me : Nat) (mq : Nat) (mw : Nat) (md : Nat) (mf : Nat) (mr : Nat) (p1 : Int32) : kt_Mi l yX11_field wsX11_field { frames := 0, cells := 0, slots := 0, locals := 0 } D (kt_ty cI cZ cB) [.ref mx, .int p1] sz [(mx, .inr (11, [.int 3, .int 3, .ref ms, .int 0, .int 4, .int 0, .int 0, .int 1, .int 0, .int 0, .int 0, .int 0, .ref mk, .ref ma, .ref mo, .ref mg, .ref mm, .ref mt, .int 0, .int 0, .ref mn, .int 0, .ref me, .ref mq, .int 0, .ref mw, .ref md, .ref mf, .ref mr]))] (fun (r : Int32) (u : Unit) => r = (-1)) (fun (u : Unit) => [(mx, .inr (11, [.int 3, .int 3, .ref ms, .int 0, .int 4, .int 0, .int 0, .int 1, .int 0, .int 0, .int 0, .int 0, .ref mk, .ref ma, .ref mo, .ref mg, .ref mm, .ref mt, .int 0, .int 0, .ref mn, .int 0, .ref me, .ref mq, .int 0, .ref mw, .ref md, .ref mf, .ref mr]))]) 0 0 := by
  refine kt_Mi.of (cc := cX11_field) (maxL := 2) (ret := some .int) (by decide) rfl (Nat.le_of_ble_eq_true rfl) ?_
  intro p e s m below meth c A ls H hAt hP hD hS hl
  obtain ⟨hx, hb, hr, hml, hown, hts, hN, hK, hlk, hnm, hA⟩ := hAt
  have hl : lv_has ls 2 [(0, .ref mx), (1, .int p1)] := hl
  have hown : s.vm.findClass RX11 = some m.cls := hown
  refine lv_aload_n hx hb dX11_field_0 rfl (lv_at hl 0 rfl) ?_
  refine va_get (D := D) (ci := 11) (C := RX11) (T := TX11) (N := 29) hx hb hts iw_X11_field_X11 hown hK hP 0 rfl rfl 8 (by decide) (hts (.fieldLink RX11 73 "KingTableModel" "how" "I") (by decide +kernel)) (fun _ h9 => h9) rfl dX11_field_1 ?_
  refine lv_if_eq (tgt := 21) hx hb dX11_field_4 (by decide) (fun c_4 => ?_) (fun c_4 => absurd c_4 (by decide))
  refine lv_iconst (v := (-1)) hx hb dX11_field_21 (by decide) ?_
  exact kt_ri () hx hb hr hlk hS dX11_field_22 hP hD (by rfl)

theorem iw_X11_took_X11 : ∀ w ∈ wsX110, w ∈ wsX11_took := by decide +kernel
set_option maxHeartbeats 4000000 in
set_option maxRecDepth 100000 in
theorem f_X11_took (l : Launch) (D : va_G) (cI cZ cB : ClassId) (sz : Nat) (mx : Nat) (ms : Nat) (mk : Nat) (ma : Nat) (mo : Nat) (mg : Nat) (mm : Nat) (mt : Nat) (mn : Nat) (me : Nat) (mq : Nat) (mw : Nat) (md : Nat) (mf : Nat) (mr : Nat) (p1 : Int32) : kt_Mi l yX11_took wsX11_took { frames := 0, cells := 0, slots := 0, locals := 0 } D (kt_ty cI cZ cB) [.ref mx, .int p1] sz [(mx, .inr (11, [.int 3, .int 3, .ref ms, .int 0, .int 4, .int 0, .int 0, .int 1, .int 0, .int 0, .int 0, .int 0, .ref mk, .ref ma, .ref mo, .ref mg, .ref mm, .ref mt, .int 0, .int 0, .ref mn, .int 0, .ref me, .ref mq, .int 0, .ref mw, .ref md, .ref mf, .ref mr]))] (fun (r : Int32) (u : Unit) => r = (-1)) (fun (u : Unit) => [(mx, .inr (11, [.int 3, .int 3, .ref ms, .int 0, .int 4, .int 0, .int 0, .int 1, .int 0, .int 0, .int 0, .int 0, .ref mk, .ref ma, .ref mo, .ref mg, .ref mm, .ref mt, .int 0, .int 0, .ref mn, .int 0, .ref me, .ref mq, .int 0, .ref mw, .ref md, .ref mf, .ref mr]))]) 0 0 := by
  refine kt_Mi.of (cc := cX11_took) (maxL := 4) (ret := some .int) (by decide) rfl (Nat.le_of_ble_eq_true rfl) ?_
  intro p e s m below meth c A ls H hAt hP hD hS hl
  obtain ⟨hx, hb, hr, hml, hown, hts, hN, hK, hlk, hnm, hA⟩ := hAt
  have hl : lv_has ls 4 [(0, .ref mx), (1, .int p1)] := hl
  have hown : s.vm.findClass RX11 = some m.cls := hown
  refine lv_aload_n hx hb dX11_took_0 rfl (lv_at hl 0 rfl) ?_
  refine va_get (D := D) (ci := 11) (C := RX11) (T := TX11) (N := 29) hx hb hts iw_X11_took_X11 hown hK hP 0 rfl rfl 8 (by decide) (hts (.fieldLink RX11 73 "KingTableModel" "how" "I") (by decide +kernel)) (fun _ h9 => h9) rfl dX11_took_1 ?_
  refine lv_if_eq (tgt := 19) hx hb dX11_took_4 (by decide) (fun c_4 => ?_) (fun c_4 => absurd c_4 (by decide))
  refine lv_iconst (v := (-1)) hx hb dX11_took_19 (by decide) ?_
  exact kt_ri () hx hb hr hlk hS dX11_took_20 hP hD (by rfl)

theorem iw_X11_ring_X11 : ∀ w ∈ wsX110, w ∈ wsX11_ring := by decide +kernel
set_option maxHeartbeats 4000000 in
set_option maxRecDepth 100000 in
theorem f_X11_ring (l : Launch) (D : va_G) (cI cZ cB : ClassId) (sz : Nat) (mx : Nat) (ms : Nat) (mk : Nat) (ma : Nat) (mo : Nat) (mg : Nat) (mm : Nat) (mt : Nat) (mn : Nat) (me : Nat) (mq : Nat) (mw : Nat) (md : Nat) (mf : Nat) (mr : Nat) : kt_Mi l yX11_ring wsX11_ring { frames := 0, cells := 0, slots := 0, locals := 0 } D (kt_ty cI cZ cB) [.ref mx] sz [(mx, .inr (11, [.int 3, .int 3, .ref ms, .int 0, .int 4, .int 0, .int 0, .int 1, .int 0, .int 0, .int 0, .int 0, .ref mk, .ref ma, .ref mo, .ref mg, .ref mm, .ref mt, .int 0, .int 0, .ref mn, .int 0, .ref me, .ref mq, .int 0, .ref mw, .ref md, .ref mf, .ref mr]))] (fun (r : Int32) (u : Unit) => r = 0) (fun (u : Unit) => [(mx, .inr (11, [.int 3, .int 3, .ref ms, .int 0, .int 4, .int 0, .int 0, .int 1, .int 0, .int 0, .int 0, .int 0, .ref mk, .ref ma, .ref mo, .ref mg, .ref mm, .ref mt, .int 0, .int 0, .ref mn, .int 0, .ref me, .ref mq, .int 0, .ref mw, .ref md, .ref mf, .ref mr]))]) 0 0 := by
  refine kt_Mi.of (cc := cX11_ring) (maxL := 1) (ret := some .boolean) (by decide) rfl (Nat.le_of_ble_eq_true rfl) ?_
  intro p e s m below meth c A ls H hAt hP hD hS hl
  obtain ⟨hx, hb, hr, hml, hown, hts, hN, hK, hlk, hnm, hA⟩ := hAt
  have hl : lv_has ls 1 [(0, .ref mx)] := hl
  have hown : s.vm.findClass RX11 = some m.cls := hown
  refine lv_aload_n hx hb dX11_ring_0 rfl (lv_at hl 0 rfl) ?_
  refine va_get (D := D) (ci := 11) (C := RX11) (T := TX11) (N := 29) hx hb hts iw_X11_ring_X11 hown hK hP 0 rfl rfl 8 (by decide) (hts (.fieldLink RX11 73 "KingTableModel" "how" "I") (by decide +kernel)) (fun _ h9 => h9) rfl dX11_ring_1 ?_
  refine lv_if_le (tgt := 48) hx hb dX11_ring_4 (by decide) (fun c_4 => ?_) (fun c_4 => absurd c_4 (by decide))
  refine lv_iconst (v := 0) hx hb dX11_ring_48 (by decide) ?_
  exact kt_rz () hx hb hr hlk hS dX11_ring_49 hP hD (by rfl) rfl

set_option maxHeartbeats 4000000 in
set_option maxRecDepth 100000 in
theorem f_X11_needed (l : Launch) (D : va_G) (cI cZ cB : ClassId) (sz : Nat) (mx : Nat) (ms : Nat) (mk : Nat) (ma : Nat) (mo : Nat) (mg : Nat) (mm : Nat) (mt : Nat) (mn : Nat) (me : Nat) (mq : Nat) (mw : Nat) (md : Nat) (mf : Nat) (mr : Nat) (p1 : Int32) : kt_Mi l yX11_needed wsX11_needed { frames := 1, cells := 0, slots := 0, locals := 20 } D (kt_ty cI cZ cB) [.ref mx, .int p1] sz [(mx, .inr (11, [.int 3, .int 3, .ref ms, .int 0, .int 4, .int 0, .int 0, .int 1, .int 0, .int 0, .int 0, .int 0, .ref mk, .ref ma, .ref mo, .ref mg, .ref mm, .ref mt, .int 0, .int 0, .ref mn, .int 0, .ref me, .ref mq, .int 0, .ref mw, .ref md, .ref mf, .ref mr]))] (fun (r : Int32) (u : Unit) => r = 0) (fun (u : Unit) => [(mx, .inr (11, [.int 3, .int 3, .ref ms, .int 0, .int 4, .int 0, .int 0, .int 1, .int 0, .int 0, .int 0, .int 0, .ref mk, .ref ma, .ref mo, .ref mg, .ref mm, .ref mt, .int 0, .int 0, .ref mn, .int 0, .ref me, .ref mq, .int 0, .ref mw, .ref md, .ref mf, .ref mr]))]) 0 0 := by
  refine kt_Mi.of (cc := cX11_needed) (maxL := 2) (ret := some .boolean) (by decide) rfl (Nat.le_of_ble_eq_true rfl) ?_
  intro p e s m below meth c A ls H hAt hP hD hS hl
  obtain ⟨hx, hb, hr, hml, hown, hts, hN, hK, hlk, hnm, hA⟩ := hAt
  have hl : lv_has ls 2 [(0, .ref mx), (1, .int p1)] := hl
  have hown : s.vm.findClass RX11 = some m.cls := hown
  refine lv_aload_n hx hb dX11_needed_0 rfl (lv_at hl 0 rfl) ?_
  refine kt_pi (wc := [(mx, .inr (11, [.int 3, .int 3, .ref ms, .int 0, .int 4, .int 0, .int 0, .int 1, .int 0, .int 0, .int 0, .int 0, .ref mk, .ref ma, .ref mo, .ref mg, .ref mm, .ref mt, .int 0, .int 0, .ref mn, .int 0, .ref me, .ref mq, .int 0, .ref mw, .ref md, .ref mf, .ref mr]))]) [0] hP hD hS hA rfl (by decide) (fun hPc hDc => va_runV (As := []) (rest := []) ⟨hx, hb, hml, hown, hts⟩ (f_X11_ring l D cI cZ cB H.size mx ms mk ma mo mg mm mt mn me mq mw md mf mr ) (cwV 0 hts gX11_needed_X11_ring rfl rfl rfl (by decide +kernel) ⟨Nat.le_of_ble_eq_true rfl, Nat.le_of_ble_eq_true rfl⟩) (kt_preV hN hK hPc hDc 0 (ci := 11) (q := (RX11, TX11, 29)) rfl rfl) rfl rfl hl.1 rfl (lv_room (Nat.le_of_ble_eq_true rfl)) dX11_needed_1 ⟨Nat.le_of_ble_eq_true rfl, Nat.le_of_ble_eq_true rfl⟩) (fun r_1 _ H locs hw_1 hP hS => ?_)
  subst hw_1
  refine lv_if_eq (tgt := 52) hx hb dX11_needed_4 (by decide) (fun c_4 => ?_) (fun c_4 => absurd c_4 (by decide))
  refine lv_iconst (v := 0) hx hb dX11_needed_52 (by decide) ?_
  exact kt_rz () hx hb hr hlk hS dX11_needed_53 hP hD (by rfl) rfl

theorem iw_X11_back_X11 : ∀ w ∈ wsX110, w ∈ wsX11_back := by decide +kernel
set_option maxHeartbeats 4000000 in
set_option maxRecDepth 100000 in
theorem f_X11_back (l : Launch) (D : va_G) (cI cZ cB : ClassId) (sz : Nat) (mx : Nat) (ms : Nat) (mk : Nat) (ma : Nat) (mo : Nat) (mg : Nat) (mm : Nat) (mt : Nat) (mn : Nat) (me : Nat) (mq : Nat) (mw : Nat) (md : Nat) (mf : Nat) (mr : Nat) : kt_Mi l yX11_back wsX11_back { frames := 0, cells := 0, slots := 0, locals := 0 } D (kt_ty cI cZ cB) [.ref mx] sz [(mx, .inr (11, [.int 3, .int 3, .ref ms, .int 0, .int 4, .int 0, .int 0, .int 1, .int 0, .int 0, .int 0, .int 0, .ref mk, .ref ma, .ref mo, .ref mg, .ref mm, .ref mt, .int 0, .int 0, .ref mn, .int 0, .ref me, .ref mq, .int 0, .ref mw, .ref md, .ref mf, .ref mr]))] (fun (r : Int32) (u : Unit) => r = 0) (fun (u : Unit) => [(mx, .inr (11, [.int 3, .int 3, .ref ms, .int 0, .int 4, .int 0, .int 0, .int 1, .int 0, .int 0, .int 0, .int 0, .ref mk, .ref ma, .ref mo, .ref mg, .ref mm, .ref mt, .int 0, .int 0, .ref mn, .int 0, .ref me, .ref mq, .int 0, .ref mw, .ref md, .ref mf, .ref mr]))]) 0 0 := by
  refine kt_Mi.of (cc := cX11_back) (maxL := 1) (ret := some .boolean) (by decide) rfl (Nat.le_of_ble_eq_true rfl) ?_
  intro p e s m below meth c A ls H hAt hP hD hS hl
  obtain ⟨hx, hb, hr, hml, hown, hts, hN, hK, hlk, hnm, hA⟩ := hAt
  have hl : lv_has ls 1 [(0, .ref mx)] := hl
  have hown : s.vm.findClass RX11 = some m.cls := hown
  refine lv_aload_n hx hb dX11_back_0 rfl (lv_at hl 0 rfl) ?_
  refine va_get (D := D) (ci := 11) (C := RX11) (T := TX11) (N := 29) hx hb hts iw_X11_back_X11 hown hK hP 0 rfl rfl 8 (by decide) (hts (.fieldLink RX11 73 "KingTableModel" "how" "I") (by decide +kernel)) (fun _ h9 => h9) rfl dX11_back_1 ?_
  refine lv_if_eq (tgt := 14) hx hb dX11_back_4 (by decide) (fun c_4 => ?_) (fun c_4 => absurd c_4 (by decide))
  refine lv_iconst (v := 0) hx hb dX11_back_14 (by decide) ?_
  exact kt_rz () hx hb hr hlk hS dX11_back_15 hP hD (by rfl) rfl

theorem iw_X11_again_X11 : ∀ w ∈ wsX110, w ∈ wsX11_again := by decide +kernel
set_option maxHeartbeats 4000000 in
set_option maxRecDepth 100000 in
theorem f_X11_again (l : Launch) (D : va_G) (cI cZ cB : ClassId) (sz : Nat) (mx : Nat) (ms : Nat) (mk : Nat) (ma : Nat) (mo : Nat) (mg : Nat) (mm : Nat) (mt : Nat) (mn : Nat) (me : Nat) (mq : Nat) (mw : Nat) (md : Nat) (mf : Nat) (mr : Nat) : kt_Mi l yX11_again wsX11_again { frames := 0, cells := 0, slots := 0, locals := 0 } D (kt_ty cI cZ cB) [.ref mx] sz [(mx, .inr (11, [.int 3, .int 3, .ref ms, .int 0, .int 4, .int 0, .int 0, .int 1, .int 0, .int 0, .int 0, .int 0, .ref mk, .ref ma, .ref mo, .ref mg, .ref mm, .ref mt, .int 0, .int 0, .ref mn, .int 0, .ref me, .ref mq, .int 0, .ref mw, .ref md, .ref mf, .ref mr]))] (fun (r : Int32) (u : Unit) => r = 0) (fun (u : Unit) => [(mx, .inr (11, [.int 3, .int 3, .ref ms, .int 0, .int 4, .int 0, .int 0, .int 1, .int 0, .int 0, .int 0, .int 0, .ref mk, .ref ma, .ref mo, .ref mg, .ref mm, .ref mt, .int 0, .int 0, .ref mn, .int 0, .ref me, .ref mq, .int 0, .ref mw, .ref md, .ref mf, .ref mr]))]) 0 0 := by
  refine kt_Mi.of (cc := cX11_again) (maxL := 1) (ret := some .boolean) (by decide) rfl (Nat.le_of_ble_eq_true rfl) ?_
  intro p e s m below meth c A ls H hAt hP hD hS hl
  obtain ⟨hx, hb, hr, hml, hown, hts, hN, hK, hlk, hnm, hA⟩ := hAt
  have hl : lv_has ls 1 [(0, .ref mx)] := hl
  have hown : s.vm.findClass RX11 = some m.cls := hown
  refine lv_aload_n hx hb dX11_again_0 rfl (lv_at hl 0 rfl) ?_
  refine va_get (D := D) (ci := 11) (C := RX11) (T := TX11) (N := 29) hx hb hts iw_X11_again_X11 hown hK hP 0 rfl rfl 8 (by decide) (hts (.fieldLink RX11 73 "KingTableModel" "how" "I") (by decide +kernel)) (fun _ h9 => h9) rfl dX11_again_1 ?_
  refine lv_if_eq (tgt := 14) hx hb dX11_again_4 (by decide) (fun c_4 => ?_) (fun c_4 => absurd c_4 (by decide))
  refine lv_iconst (v := 0) hx hb dX11_again_14 (by decide) ?_
  exact kt_rz () hx hb hr hlk hS dX11_again_15 hP hD (by rfl) rfl

theorem iw_X11_solve_X11 : ∀ w ∈ wsX110, w ∈ wsX11_solve := by decide +kernel
set_option maxHeartbeats 4000000 in
set_option maxRecDepth 100000 in
theorem f_X11_solve (l : Launch) (D : va_G) (cI cZ cB : ClassId) (sz : Nat) (mx : Nat) (ms : Nat) (mk : Nat) (ma : Nat) (mo : Nat) (mg : Nat) (mm : Nat) (mt : Nat) (mn : Nat) (me : Nat) (mq : Nat) (mw : Nat) (md : Nat) (mf : Nat) (mr : Nat) : kt_Mi l yX11_solve wsX11_solve { frames := 0, cells := 0, slots := 0, locals := 0 } D (kt_ty cI cZ cB) [.ref mx] sz [(mx, .inr (11, [.int 3, .int 3, .ref ms, .int 0, .int 4, .int 0, .int 0, .int 1, .int 0, .int 0, .int 0, .int 0, .ref mk, .ref ma, .ref mo, .ref mg, .ref mm, .ref mt, .int 0, .int 0, .ref mn, .int 0, .ref me, .ref mq, .int 0, .ref mw, .ref md, .ref mf, .ref mr]))] (fun (r : Int32) (u : Unit) => r = (-1)) (fun (u : Unit) => [(mx, .inr (11, [.int 3, .int 3, .ref ms, .int 0, .int 4, .int 0, .int 0, .int 1, .int 0, .int 0, .int 0, .int 0, .ref mk, .ref ma, .ref mo, .ref mg, .ref mm, .ref mt, .int 0, .int 0, .ref mn, .int 0, .ref me, .ref mq, .int 0, .ref mw, .ref md, .ref mf, .ref mr]))]) 0 0 := by
  refine kt_Mi.of (cc := cX11_solve) (maxL := 6) (ret := some .int) (by decide) rfl (Nat.le_of_ble_eq_true rfl) ?_
  intro p e s m below meth c A ls H hAt hP hD hS hl
  obtain ⟨hx, hb, hr, hml, hown, hts, hN, hK, hlk, hnm, hA⟩ := hAt
  have hl : lv_has ls 6 [(0, .ref mx)] := hl
  have hown : s.vm.findClass RX11 = some m.cls := hown
  refine lv_aload_n hx hb dX11_solve_0 rfl (lv_at hl 0 rfl) ?_
  refine va_get (D := D) (ci := 11) (C := RX11) (T := TX11) (N := 29) hx hb hts iw_X11_solve_X11 hown hK hP 0 rfl rfl 8 (by decide) (hts (.fieldLink RX11 73 "KingTableModel" "how" "I") (by decide +kernel)) (fun _ h9 => h9) rfl dX11_solve_1 ?_
  refine lv_if_eq (tgt := 18) hx hb dX11_solve_4 (by decide) (fun c_4 => ?_) (fun c_4 => absurd c_4 (by decide))
  refine lv_iconst (v := (-1)) hx hb dX11_solve_18 (by decide) ?_
  exact kt_ri () hx hb hr hlk hS dX11_solve_19 hP hD (by rfl)

theorem iw_X11_worth_X11 : ∀ w ∈ wsX110, w ∈ wsX11_worth := by decide +kernel
set_option maxHeartbeats 4000000 in
set_option maxRecDepth 100000 in
theorem f_X11_worth (l : Launch) (D : va_G) (cI cZ cB : ClassId) (sz : Nat) (mx : Nat) (ms : Nat) (mk : Nat) (ma : Nat) (mo : Nat) (mg : Nat) (mm : Nat) (mt : Nat) (mn : Nat) (me : Nat) (mq : Nat) (mw : Nat) (md : Nat) (mf : Nat) (mr : Nat) : kt_Mi l yX11_worth wsX11_worth { frames := 0, cells := 0, slots := 0, locals := 0 } D (kt_ty cI cZ cB) [.ref mx] sz [(mx, .inr (11, [.int 3, .int 3, .ref ms, .int 0, .int 4, .int 0, .int 0, .int 1, .int 0, .int 0, .int 0, .int 0, .ref mk, .ref ma, .ref mo, .ref mg, .ref mm, .ref mt, .int 0, .int 0, .ref mn, .int 0, .ref me, .ref mq, .int 0, .ref mw, .ref md, .ref mf, .ref mr]))] (fun (r : Int32) (u : Unit) => r = (-1)) (fun (u : Unit) => [(mx, .inr (11, [.int 3, .int 3, .ref ms, .int 0, .int 4, .int 0, .int 0, .int 1, .int 0, .int 0, .int 0, .int 0, .ref mk, .ref ma, .ref mo, .ref mg, .ref mm, .ref mt, .int 0, .int 0, .ref mn, .int 0, .ref me, .ref mq, .int 0, .ref mw, .ref md, .ref mf, .ref mr]))]) 0 0 := by
  refine kt_Mi.of (cc := cX11_worth) (maxL := 1) (ret := some .int) (by decide) rfl (Nat.le_of_ble_eq_true rfl) ?_
  intro p e s m below meth c A ls H hAt hP hD hS hl
  obtain ⟨hx, hb, hr, hml, hown, hts, hN, hK, hlk, hnm, hA⟩ := hAt
  have hl : lv_has ls 1 [(0, .ref mx)] := hl
  have hown : s.vm.findClass RX11 = some m.cls := hown
  refine lv_aload_n hx hb dX11_worth_0 rfl (lv_at hl 0 rfl) ?_
  refine va_get (D := D) (ci := 11) (C := RX11) (T := TX11) (N := 29) hx hb hts iw_X11_worth_X11 hown hK hP 0 rfl rfl 24 (by decide) (hts (.fieldLink RX11 76 "KingTableModel" "solved" "Z") (by decide +kernel)) (fun _ h9 => h9) rfl dX11_worth_1 ?_
  refine lv_if_eq (tgt := 19) hx hb dX11_worth_4 (by decide) (fun c_4 => ?_) (fun c_4 => absurd c_4 (by decide))
  refine lv_iconst (v := (-1)) hx hb dX11_worth_19 (by decide) ?_
  exact kt_ri () hx hb hr hlk hS dX11_worth_20 hP hD (by rfl)

theorem iw_X11_deep_X11 : ∀ w ∈ wsX110, w ∈ wsX11_deep := by decide +kernel
set_option maxHeartbeats 4000000 in
set_option maxRecDepth 100000 in
theorem f_X11_deep (l : Launch) (D : va_G) (cI cZ cB : ClassId) (sz : Nat) (mx : Nat) (ms : Nat) (mk : Nat) (ma : Nat) (mo : Nat) (mg : Nat) (mm : Nat) (mt : Nat) (mn : Nat) (me : Nat) (mq : Nat) (mw : Nat) (md : Nat) (mf : Nat) (mr : Nat) : kt_Mi l yX11_deep wsX11_deep { frames := 0, cells := 0, slots := 0, locals := 0 } D (kt_ty cI cZ cB) [.ref mx] sz [(mx, .inr (11, [.int 3, .int 3, .ref ms, .int 0, .int 4, .int 0, .int 0, .int 1, .int 0, .int 0, .int 0, .int 0, .ref mk, .ref ma, .ref mo, .ref mg, .ref mm, .ref mt, .int 0, .int 0, .ref mn, .int 0, .ref me, .ref mq, .int 0, .ref mw, .ref md, .ref mf, .ref mr]))] (fun (r : Int32) (u : Unit) => r = (-1)) (fun (u : Unit) => [(mx, .inr (11, [.int 3, .int 3, .ref ms, .int 0, .int 4, .int 0, .int 0, .int 1, .int 0, .int 0, .int 0, .int 0, .ref mk, .ref ma, .ref mo, .ref mg, .ref mm, .ref mt, .int 0, .int 0, .ref mn, .int 0, .ref me, .ref mq, .int 0, .ref mw, .ref md, .ref mf, .ref mr]))]) 0 0 := by
  refine kt_Mi.of (cc := cX11_deep) (maxL := 1) (ret := some .int) (by decide) rfl (Nat.le_of_ble_eq_true rfl) ?_
  intro p e s m below meth c A ls H hAt hP hD hS hl
  obtain ⟨hx, hb, hr, hml, hown, hts, hN, hK, hlk, hnm, hA⟩ := hAt
  have hl : lv_has ls 1 [(0, .ref mx)] := hl
  have hown : s.vm.findClass RX11 = some m.cls := hown
  refine lv_aload_n hx hb dX11_deep_0 rfl (lv_at hl 0 rfl) ?_
  refine va_get (D := D) (ci := 11) (C := RX11) (T := TX11) (N := 29) hx hb hts iw_X11_deep_X11 hown hK hP 0 rfl rfl 24 (by decide) (hts (.fieldLink RX11 76 "KingTableModel" "solved" "Z") (by decide +kernel)) (fun _ h9 => h9) rfl dX11_deep_1 ?_
  refine lv_if_eq (tgt := 19) hx hb dX11_deep_4 (by decide) (fun c_4 => ?_) (fun c_4 => absurd c_4 (by decide))
  refine lv_iconst (v := (-1)) hx hb dX11_deep_19 (by decide) ?_
  exact kt_ri () hx hb hr hlk hS dX11_deep_20 hP hD (by rfl)

theorem iw_X11_best_X11 : ∀ w ∈ wsX110, w ∈ wsX11_best := by decide +kernel
set_option maxHeartbeats 4000000 in
set_option maxRecDepth 100000 in
theorem f_X11_best (l : Launch) (D : va_G) (cI cZ cB : ClassId) (sz : Nat) (mx : Nat) (ms : Nat) (mk : Nat) (ma : Nat) (mo : Nat) (mg : Nat) (mm : Nat) (mt : Nat) (mn : Nat) (me : Nat) (mq : Nat) (mw : Nat) (md : Nat) (mf : Nat) (mr : Nat) : kt_Mi l yX11_best wsX11_best { frames := 0, cells := 0, slots := 0, locals := 0 } D (kt_ty cI cZ cB) [.ref mx] sz [(mx, .inr (11, [.int 3, .int 3, .ref ms, .int 0, .int 4, .int 0, .int 0, .int 1, .int 0, .int 0, .int 0, .int 0, .ref mk, .ref ma, .ref mo, .ref mg, .ref mm, .ref mt, .int 0, .int 0, .ref mn, .int 0, .ref me, .ref mq, .int 0, .ref mw, .ref md, .ref mf, .ref mr]))] (fun (r : Int32) (u : Unit) => r = (-1)) (fun (u : Unit) => [(mx, .inr (11, [.int 3, .int 3, .ref ms, .int 0, .int 4, .int 0, .int 0, .int 1, .int 0, .int 0, .int 0, .int 0, .ref mk, .ref ma, .ref mo, .ref mg, .ref mm, .ref mt, .int 0, .int 0, .ref mn, .int 0, .ref me, .ref mq, .int 0, .ref mw, .ref md, .ref mf, .ref mr]))]) 0 0 := by
  refine kt_Mi.of (cc := cX11_best) (maxL := 9) (ret := some .int) (by decide) rfl (Nat.le_of_ble_eq_true rfl) ?_
  intro p e s m below meth c A ls H hAt hP hD hS hl
  obtain ⟨hx, hb, hr, hml, hown, hts, hN, hK, hlk, hnm, hA⟩ := hAt
  have hl : lv_has ls 9 [(0, .ref mx)] := hl
  have hown : s.vm.findClass RX11 = some m.cls := hown
  refine lv_aload_n hx hb dX11_best_0 rfl (lv_at hl 0 rfl) ?_
  refine va_get (D := D) (ci := 11) (C := RX11) (T := TX11) (N := 29) hx hb hts iw_X11_best_X11 hown hK hP 0 rfl rfl 24 (by decide) (hts (.fieldLink RX11 76 "KingTableModel" "solved" "Z") (by decide +kernel)) (fun _ h9 => h9) rfl dX11_best_1 ?_
  refine lv_if_ne (tgt := 9) hx hb dX11_best_4 (by decide) (fun c_4 => absurd c_4 (by decide)) (fun c_4 => ?_)
  refine lv_iconst (v := (-1)) hx hb dX11_best_7 (by decide) ?_
  exact kt_ri () hx hb hr hlk hS dX11_best_8 hP hD (by rfl)

theorem iw_X11_count_X11 : ∀ w ∈ wsX110, w ∈ wsX11_count := by decide +kernel
set_option maxHeartbeats 4000000 in
set_option maxRecDepth 100000 in
theorem f_X11_count (l : Launch) (D : va_G) (cI cZ cB : ClassId) (sz : Nat) (mx : Nat) (ms : Nat) (mk : Nat) (ma : Nat) (mo : Nat) (mg : Nat) (mm : Nat) (mt : Nat) (mn : Nat) (me : Nat) (mq : Nat) (mw : Nat) (md : Nat) (mf : Nat) (mr : Nat) (p1 : Int32) (p2 : Int32) : kt_Mi l yX11_count wsX11_count { frames := 0, cells := 0, slots := 0, locals := 0 } D (kt_ty cI cZ cB) [.ref mx, .int p1, .int p2] sz [(mx, .inr (11, [.int 3, .int 3, .ref ms, .int 0, .int 4, .int 0, .int 0, .int 1, .int 0, .int 0, .int 0, .int 0, .ref mk, .ref ma, .ref mo, .ref mg, .ref mm, .ref mt, .int 0, .int 0, .ref mn, .int 0, .ref me, .ref mq, .int 0, .ref mw, .ref md, .ref mf, .ref mr]))] (fun (r : Int32) (u : Unit) => r = (-1)) (fun (u : Unit) => [(mx, .inr (11, [.int 3, .int 3, .ref ms, .int 0, .int 4, .int 0, .int 0, .int 1, .int 0, .int 0, .int 0, .int 0, .ref mk, .ref ma, .ref mo, .ref mg, .ref mm, .ref mt, .int 0, .int 0, .ref mn, .int 0, .ref me, .ref mq, .int 0, .ref mw, .ref md, .ref mf, .ref mr]))]) 0 0 := by
  refine kt_Mi.of (cc := cX11_count) (maxL := 5) (ret := some .int) (by decide) rfl (Nat.le_of_ble_eq_true rfl) ?_
  intro p e s m below meth c A ls H hAt hP hD hS hl
  obtain ⟨hx, hb, hr, hml, hown, hts, hN, hK, hlk, hnm, hA⟩ := hAt
  have hl : lv_has ls 5 [(0, .ref mx), (1, .int p1), (2, .int p2)] := hl
  have hown : s.vm.findClass RX11 = some m.cls := hown
  refine lv_aload_n hx hb dX11_count_0 rfl (lv_at hl 0 rfl) ?_
  refine va_get (D := D) (ci := 11) (C := RX11) (T := TX11) (N := 29) hx hb hts iw_X11_count_X11 hown hK hP 0 rfl rfl 24 (by decide) (hts (.fieldLink RX11 76 "KingTableModel" "solved" "Z") (by decide +kernel)) (fun _ h9 => h9) rfl dX11_count_1 ?_
  refine lv_if_eq (tgt := 25) hx hb dX11_count_4 (by decide) (fun c_4 => ?_) (fun c_4 => absurd c_4 (by decide))
  refine lv_iconst (v := (-1)) hx hb dX11_count_25 (by decide) ?_
  exact kt_ri () hx hb hr hlk hS dX11_count_26 hP hD (by rfl)

theorem iw_X11_most_X11 : ∀ w ∈ wsX110, w ∈ wsX11_most := by decide +kernel
set_option maxHeartbeats 4000000 in
set_option maxRecDepth 100000 in
theorem f_X11_most (l : Launch) (D : va_G) (cI cZ cB : ClassId) (sz : Nat) (mx : Nat) (ms : Nat) (mk : Nat) (ma : Nat) (mo : Nat) (mg : Nat) (mm : Nat) (mt : Nat) (mn : Nat) (me : Nat) (mq : Nat) (mw : Nat) (md : Nat) (mf : Nat) (mr : Nat) (p1 : Int32) : kt_Mi l yX11_most wsX11_most { frames := 0, cells := 0, slots := 0, locals := 0 } D (kt_ty cI cZ cB) [.ref mx, .int p1] sz [(mx, .inr (11, [.int 3, .int 3, .ref ms, .int 0, .int 4, .int 0, .int 0, .int 1, .int 0, .int 0, .int 0, .int 0, .ref mk, .ref ma, .ref mo, .ref mg, .ref mm, .ref mt, .int 0, .int 0, .ref mn, .int 0, .ref me, .ref mq, .int 0, .ref mw, .ref md, .ref mf, .ref mr]))] (fun (r : Int32) (u : Unit) => r = (-1)) (fun (u : Unit) => [(mx, .inr (11, [.int 3, .int 3, .ref ms, .int 0, .int 4, .int 0, .int 0, .int 1, .int 0, .int 0, .int 0, .int 0, .ref mk, .ref ma, .ref mo, .ref mg, .ref mm, .ref mt, .int 0, .int 0, .ref mn, .int 0, .ref me, .ref mq, .int 0, .ref mw, .ref md, .ref mf, .ref mr]))]) 0 0 := by
  refine kt_Mi.of (cc := cX11_most) (maxL := 4) (ret := some .int) (by decide) rfl (Nat.le_of_ble_eq_true rfl) ?_
  intro p e s m below meth c A ls H hAt hP hD hS hl
  obtain ⟨hx, hb, hr, hml, hown, hts, hN, hK, hlk, hnm, hA⟩ := hAt
  have hl : lv_has ls 4 [(0, .ref mx), (1, .int p1)] := hl
  have hown : s.vm.findClass RX11 = some m.cls := hown
  refine lv_aload_n hx hb dX11_most_0 rfl (lv_at hl 0 rfl) ?_
  refine va_get (D := D) (ci := 11) (C := RX11) (T := TX11) (N := 29) hx hb hts iw_X11_most_X11 hown hK hP 0 rfl rfl 24 (by decide) (hts (.fieldLink RX11 76 "KingTableModel" "solved" "Z") (by decide +kernel)) (fun _ h9 => h9) rfl dX11_most_1 ?_
  refine lv_if_eq (tgt := 16) hx hb dX11_most_4 (by decide) (fun c_4 => ?_) (fun c_4 => absurd c_4 (by decide))
  refine lv_iconst (v := (-1)) hx hb dX11_most_16 (by decide) ?_
  exact kt_ri () hx hb hr hlk hS dX11_most_17 hP hD (by rfl)

theorem iw_X11_stand_X11 : ∀ w ∈ wsX110, w ∈ wsX11_stand := by decide +kernel
set_option maxHeartbeats 4000000 in
set_option maxRecDepth 100000 in
theorem f_X11_stand (l : Launch) (D : va_G) (cI cZ cB : ClassId) (sz : Nat) (mx : Nat) (ms : Nat) (mk : Nat) (ma : Nat) (mo : Nat) (mg : Nat) (mm : Nat) (mt : Nat) (mn : Nat) (me : Nat) (mq : Nat) (mw : Nat) (md : Nat) (mf : Nat) (mr : Nat) (p1 : Int32) (p2 : Int32) : kt_Mi l yX11_stand wsX11_stand { frames := 0, cells := 0, slots := 0, locals := 0 } D (kt_ty cI cZ cB) [.ref mx, .int p1, .int p2] sz [(mx, .inr (11, [.int 3, .int 3, .ref ms, .int 0, .int 4, .int 0, .int 0, .int 1, .int 0, .int 0, .int 0, .int 0, .ref mk, .ref ma, .ref mo, .ref mg, .ref mm, .ref mt, .int 0, .int 0, .ref mn, .int 0, .ref me, .ref mq, .int 0, .ref mw, .ref md, .ref mf, .ref mr]))] (fun (r : Int32) (u : Unit) => r = (-1)) (fun (u : Unit) => [(mx, .inr (11, [.int 3, .int 3, .ref ms, .int 0, .int 4, .int 0, .int 0, .int 1, .int 0, .int 0, .int 0, .int 0, .ref mk, .ref ma, .ref mo, .ref mg, .ref mm, .ref mt, .int 0, .int 0, .ref mn, .int 0, .ref me, .ref mq, .int 0, .ref mw, .ref md, .ref mf, .ref mr]))]) 0 0 := by
  refine kt_Mi.of (cc := cX11_stand) (maxL := 4) (ret := some .int) (by decide) rfl (Nat.le_of_ble_eq_true rfl) ?_
  intro p e s m below meth c A ls H hAt hP hD hS hl
  obtain ⟨hx, hb, hr, hml, hown, hts, hN, hK, hlk, hnm, hA⟩ := hAt
  have hl : lv_has ls 4 [(0, .ref mx), (1, .int p1), (2, .int p2)] := hl
  have hown : s.vm.findClass RX11 = some m.cls := hown
  refine lv_aload_n hx hb dX11_stand_0 rfl (lv_at hl 0 rfl) ?_
  refine va_get (D := D) (ci := 11) (C := RX11) (T := TX11) (N := 29) hx hb hts iw_X11_stand_X11 hown hK hP 0 rfl rfl 24 (by decide) (hts (.fieldLink RX11 76 "KingTableModel" "solved" "Z") (by decide +kernel)) (fun _ h9 => h9) rfl dX11_stand_1 ?_
  refine lv_if_eq (tgt := 34) hx hb dX11_stand_4 (by decide) (fun c_4 => ?_) (fun c_4 => absurd c_4 (by decide))
  refine lv_iconst (v := (-1)) hx hb dX11_stand_34 (by decide) ?_
  exact kt_ri () hx hb hr hlk hS dX11_stand_35 hP hD (by rfl)

theorem iw_X11_about_X11 : ∀ w ∈ wsX110, w ∈ wsX11_about := by decide +kernel
set_option maxHeartbeats 4000000 in
set_option maxRecDepth 100000 in
theorem f_X11_about (l : Launch) (D : va_G) (cI cZ cB : ClassId) (sz : Nat) (mx : Nat) (ms : Nat) (mk : Nat) (ma : Nat) (mo : Nat) (mg : Nat) (mm : Nat) (mt : Nat) (mn : Nat) (me : Nat) (mq : Nat) (mw : Nat) (md : Nat) (mf : Nat) (mr : Nat) (p1 : Int32) : kt_Mi l yX11_about wsX11_about { frames := 1, cells := 0, slots := 0, locals := 20 } D (kt_ty cI cZ cB) [.ref mx, .int p1] sz [(mx, .inr (11, [.int 3, .int 3, .ref ms, .int 0, .int 4, .int 0, .int 0, .int 1, .int 0, .int 0, .int 0, .int 0, .ref mk, .ref ma, .ref mo, .ref mg, .ref mm, .ref mt, .int 0, .int 0, .ref mn, .int 0, .ref me, .ref mq, .int 0, .ref mw, .ref md, .ref mf, .ref mr]))] (fun (r : Int32) (u : Unit) => r = kt_about p1) (fun (u : Unit) => [(mx, .inr (11, [.int 3, .int 3, .ref ms, .int 0, .int 4, .int 0, .int 0, .int 1, .int 0, .int 0, .int 0, .int 0, .ref mk, .ref ma, .ref mo, .ref mg, .ref mm, .ref mt, .int 0, .int 0, .ref mn, .int 0, .ref me, .ref mq, .int 0, .ref mw, .ref md, .ref mf, .ref mr]))]) 0 0 := by
  refine kt_Mi.of (cc := cX11_about) (maxL := 5) (ret := some .int) (by decide) rfl (Nat.le_of_ble_eq_true rfl) ?_
  intro p e s m below meth c A ls H hAt hP hD hS hl
  obtain ⟨hx, hb, hr, hml, hown, hts, hN, hK, hlk, hnm, hA⟩ := hAt
  have hl : lv_has ls 5 [(0, .ref mx), (1, .int p1)] := hl
  have hown : s.vm.findClass RX11 = some m.cls := hown
  refine lv_aload_n hx hb dX11_about_0 rfl (lv_at hl 0 rfl) ?_
  refine va_get (D := D) (ci := 11) (C := RX11) (T := TX11) (N := 29) hx hb hts iw_X11_about_X11 hown hK hP 0 rfl rfl 8 (by decide) (hts (.fieldLink RX11 73 "KingTableModel" "how" "I") (by decide +kernel)) (fun _ h9 => h9) rfl dX11_about_1 ?_
  refine lv_if_le (tgt := 11) hx hb dX11_about_4 (by decide) (fun c_4 => ?_) (fun c_4 => absurd c_4 (by decide))
  refine lv_iconst (v := 0) hx hb dX11_about_11 (by decide) ?_
  refine lv_istore_n (lv' := [(2, .int 0), (0, .ref mx), (1, .int p1)]) hx hb dX11_about_12 rfl hl (by decide) rfl (fun ls hl => ?_)
  refine lv_iload_n hx hb dX11_about_13 rfl (lv_at hl 2 rfl) ?_
  rcases kt_sw p1 9 with hsw | ⟨hsw, hs2⟩
  · refine lv_tableOut (tgt := 193) hx hb dX11_about_14 (by omega) (by decide) ?_
    refine lv_iconst (v := (-1)) hx hb dX11_about_193 (by decide) ?_
    exact kt_ri () hx hb hr hlk hS dX11_about_194 hP hD (by first | exact kt_about_out hsw | (rw [ej]; decide))
  · obtain ⟨j, hj, ej⟩ : ∃ j : Nat, j < 9 ∧ p1 = nI j := ⟨p1.toInt.toNat, by omega, kt_nIof (by omega)⟩
    rcases (show j = 0 ∨ j = 1 ∨ j = 2 ∨ j = 3 ∨ j = 4 ∨ j = 5 ∨ j = 6 ∨ j = 7 ∨ j = 8 by omega) with rfl | rfl | rfl | rfl | rfl | rfl | rfl | rfl | rfl
    · have ej : p1 = 0 := ej
      refine lv_tableIn (tgt := 64) (off := 50) hx hb dX11_about_14 (by rw [ej]; decide) (by rw [ej]; decide) (by rw [ej]; rfl) (by decide) ?_
      refine lv_aload_n hx hb dX11_about_64 rfl (lv_at hl 1 rfl) ?_
      refine va_get (D := D) (ci := 11) (C := RX11) (T := TX11) (N := 29) hx hb hts iw_X11_about_X11 hown hK hP 0 rfl rfl 8 (by decide) (hts (.fieldLink RX11 73 "KingTableModel" "how" "I") (by decide +kernel)) (fun _ h9 => h9) rfl dX11_about_65 ?_
      exact kt_ri () hx hb hr hlk hS dX11_about_68 hP hD (by first | exact kt_about_out hsw | (rw [ej]; decide))
    · have ej : p1 = 1 := ej
      refine lv_tableIn (tgt := 69) (off := 55) hx hb dX11_about_14 (by rw [ej]; decide) (by rw [ej]; decide) (by rw [ej]; rfl) (by decide) ?_
      refine lv_aload_n hx hb dX11_about_69 rfl (lv_at hl 1 rfl) ?_
      refine va_get (D := D) (ci := 11) (C := RX11) (T := TX11) (N := 29) hx hb hts iw_X11_about_X11 hown hK hP 0 rfl rfl 8 (by decide) (hts (.fieldLink RX11 73 "KingTableModel" "how" "I") (by decide +kernel)) (fun _ h9 => h9) rfl dX11_about_70 ?_
      refine lv_iconst (v := 1) hx hb dX11_about_73 (by decide) ?_
      refine lv_icmp_ne (tgt := 84) hx hb dX11_about_74 (by decide) (fun c_74 => ?_) (fun c_74 => absurd c_74 (by decide))
      refine lv_iconst (v := (-1)) hx hb dX11_about_84 (by decide) ?_
      exact kt_ri () hx hb hr hlk hS dX11_about_85 hP hD (by first | exact kt_about_out hsw | (rw [ej]; decide))
    · have ej : p1 = 2 := ej
      refine lv_tableIn (tgt := 86) (off := 72) hx hb dX11_about_14 (by rw [ej]; decide) (by rw [ej]; decide) (by rw [ej]; rfl) (by decide) ?_
      refine lv_iload_n hx hb dX11_about_86 rfl (lv_at hl 0 rfl) ?_
      refine lv_if_eq (tgt := 97) hx hb dX11_about_87 (by decide) (fun c_87 => ?_) (fun c_87 => absurd c_87 (by decide))
      refine lv_iconst (v := 0) hx hb dX11_about_97 (by decide) ?_
      exact kt_ri () hx hb hr hlk hS dX11_about_98 hP hD (by first | exact kt_about_out hsw | (rw [ej]; decide))
    · have ej : p1 = 3 := ej
      refine lv_tableIn (tgt := 99) (off := 85) hx hb dX11_about_14 (by rw [ej]; decide) (by rw [ej]; decide) (by rw [ej]; rfl) (by decide) ?_
      refine lv_iconst (v := 0) hx hb dX11_about_99 (by decide) ?_
      refine lv_istore_n (lv' := [(3, .int 0), (2, .int 0), (0, .ref mx), (1, .int p1)]) hx hb dX11_about_100 rfl hl (by decide) rfl (fun ls hl => ?_)
      refine lv_iconst (v := 0) hx hb dX11_about_101 (by decide) ?_
      refine lv_istore (lv' := [(4, .int 0), (3, .int 0), (2, .int 0), (0, .ref mx), (1, .int p1)]) hx hb dX11_about_102 hl (by decide) rfl (fun ls hl => ?_)
      refine lv_iload hx hb dX11_about_104 (lv_at hl 0 rfl) ?_
      refine lv_aload_n hx hb dX11_about_106 rfl (lv_at hl 3 rfl) ?_
      refine va_get (D := D) (ci := 11) (C := RX11) (T := TX11) (N := 29) hx hb hts iw_X11_about_X11 hown hK hP 0 rfl rfl 9 (by decide) (hts (.fieldLink RX11 103 "KingTableModel" "pieces" "I") (by decide +kernel)) (fun _ h9 => h9) rfl dX11_about_107 ?_
      refine lv_icmp_ge (tgt := 142) hx hb dX11_about_110 (by decide) (fun c_110 => ?_) (fun c_110 => absurd c_110 (by decide))
      refine lv_iload_n hx hb dX11_about_142 rfl (lv_at hl 1 rfl) ?_
      exact kt_ri () hx hb hr hlk hS dX11_about_143 hP hD (by first | exact kt_about_out hsw | (rw [ej]; decide))
    · have ej : p1 = 4 := ej
      refine lv_tableIn (tgt := 144) (off := 130) hx hb dX11_about_14 (by rw [ej]; decide) (by rw [ej]; decide) (by rw [ej]; rfl) (by decide) ?_
      refine lv_iload_n hx hb dX11_about_144 rfl (lv_at hl 0 rfl) ?_
      refine lv_if_eq (tgt := 155) hx hb dX11_about_145 (by decide) (fun c_145 => ?_) (fun c_145 => absurd c_145 (by decide))
      refine lv_iconst (v := 0) hx hb dX11_about_155 (by decide) ?_
      exact kt_ri () hx hb hr hlk hS dX11_about_156 hP hD (by first | exact kt_about_out hsw | (rw [ej]; decide))
    · have ej : p1 = 5 := ej
      refine lv_tableIn (tgt := 157) (off := 143) hx hb dX11_about_14 (by rw [ej]; decide) (by rw [ej]; decide) (by rw [ej]; rfl) (by decide) ?_
      refine lv_aload_n hx hb dX11_about_157 rfl (lv_at hl 1 rfl) ?_
      refine kt_pi (wc := [(mx, .inr (11, [.int 3, .int 3, .ref ms, .int 0, .int 4, .int 0, .int 0, .int 1, .int 0, .int 0, .int 0, .int 0, .ref mk, .ref ma, .ref mo, .ref mg, .ref mm, .ref mt, .int 0, .int 0, .ref mn, .int 0, .ref me, .ref mq, .int 0, .ref mw, .ref md, .ref mf, .ref mr]))]) [0] hP hD hS hA rfl (by decide) (fun hPc hDc => va_runV (As := []) (rest := []) ⟨hx, hb, hml, hown, hts⟩ (f_X11_fields l D cI cZ cB H.size mx ms mk ma mo mg mm mt mn me mq mw md mf mr ) (cwV 0 hts gX11_about_X11_fields rfl rfl rfl (by decide +kernel) ⟨Nat.le_of_ble_eq_true rfl, Nat.le_of_ble_eq_true rfl⟩) (kt_preV hN hK hPc hDc 0 (ci := 11) (q := (RX11, TX11, 29)) rfl rfl) rfl rfl hl.1 rfl (lv_room (Nat.le_of_ble_eq_true rfl)) dX11_about_158 ⟨Nat.le_of_ble_eq_true rfl, Nat.le_of_ble_eq_true rfl⟩) (fun r_158 _ H locs hw_158 hP hS => ?_)
      subst hw_158
      exact kt_ri () hx hb hr hlk hS dX11_about_161 hP hD (by first | exact kt_about_out hsw | (rw [ej]; decide))
    · have ej : p1 = 6 := ej
      refine lv_tableIn (tgt := 162) (off := 148) hx hb dX11_about_14 (by rw [ej]; decide) (by rw [ej]; decide) (by rw [ej]; rfl) (by decide) ?_
      refine lv_iload_n hx hb dX11_about_162 rfl (lv_at hl 0 rfl) ?_
      refine lv_if_eq (tgt := 173) hx hb dX11_about_163 (by decide) (fun c_163 => ?_) (fun c_163 => absurd c_163 (by decide))
      refine lv_iconst (v := 0) hx hb dX11_about_173 (by decide) ?_
      exact kt_ri () hx hb hr hlk hS dX11_about_174 hP hD (by first | exact kt_about_out hsw | (rw [ej]; decide))
    · have ej : p1 = 7 := ej
      refine lv_tableIn (tgt := 175) (off := 161) hx hb dX11_about_14 (by rw [ej]; decide) (by rw [ej]; decide) (by rw [ej]; rfl) (by decide) ?_
      refine lv_aload_n hx hb dX11_about_175 rfl (lv_at hl 1 rfl) ?_
      refine va_get (D := D) (ci := 11) (C := RX11) (T := TX11) (N := 29) hx hb hts iw_X11_about_X11 hown hK hP 0 rfl rfl 0 (by decide) (hts (.fieldLink RX11 7 "KingTableModel" "lines" "I") (by decide +kernel)) (fun _ h9 => h9) rfl dX11_about_176 ?_
      exact kt_ri () hx hb hr hlk hS dX11_about_179 hP hD (by first | exact kt_about_out hsw | (rw [ej]; decide))
    · have ej : p1 = 8 := ej
      refine lv_tableIn (tgt := 180) (off := 166) hx hb dX11_about_14 (by rw [ej]; decide) (by rw [ej]; decide) (by rw [ej]; rfl) (by decide) ?_
      refine lv_iload_n hx hb dX11_about_180 rfl (lv_at hl 0 rfl) ?_
      refine lv_if_eq (tgt := 191) hx hb dX11_about_181 (by decide) (fun c_181 => ?_) (fun c_181 => absurd c_181 (by decide))
      refine lv_iconst (v := (-1)) hx hb dX11_about_191 (by decide) ?_
      exact kt_ri () hx hb hr hlk hS dX11_about_192 hP hD (by first | exact kt_about_out hsw | (rw [ej]; decide))
