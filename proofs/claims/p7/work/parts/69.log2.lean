set_option maxHeartbeats 4000000 in
set_option maxRecDepth 100000 in
theorem c_X3_writeE (l : Launch) (D : va_G) (cI cZ cB : ClassId) (sz : Nat) (lo : Nat) (l0 : Nat) (l1 : Nat) (l2 : Nat) (l3 : Nat) (l4 : Nat) (l5 : Nat) (l6 : Nat) (dn : Int32) (kn : Int32) (m0 : Nat → Int32) (m1 : Nat → Int32) (m2 : Nat → Int32) (m3 : Nat → Int32) (m4 : Nat → Int32) (m5 : Nat → Int32) (nw : Nat) (sf : Nat) (sh : Nat) (tu : Int32) (ff : Nat → Int32) (ru : Nat) (la : Nat) (gr : Nat) (rk : Nat) (rs : Nat) (rt : Nat) (rv : Nat) (tt : Int32) (kg : Int32) (vc : Int32) (fv : Nat → Int32) (p1 : Int32) (p2 : Int32) (hdn : 0 ≤ dn.toInt ∧ dn.toInt ≤ 511) (hkn : 0 ≤ kn.toInt ∧ kn.toInt ≤ 512) (hm0 : kt_r m0 512 0 39) (hm1 : kt_r m1 512 (-1) 80) (hm2 : kt_r m2 512 (-1) 80) (hm3 : kt_r m3 512 0 4) (hm4 : kt_r m4 2048 0 39) (hm5 : kt_r m5 2048 (-1) 80) (hff : kt_r ff 40 (-1) 80) (hvc : 0 ≤ vc.toInt ∧ vc.toInt ≤ 4) (hrv : kt_r fv 4 0 39) (hp1 : 0 ≤ p1.toInt ∧ p1.toInt ≤ 39) (hp2 : -1 ≤ p2.toInt ∧ p2.toInt ≤ 80) : kt_Mv l yX3_write wsX3_write { frames := 1, cells := 0, slots := 0, locals := 21 } D (kt_ty cI cZ cB) [.ref lo, .ref nw, .int p1, .int p2, .ref ru] sz [(lo, .inr (3, [.ref l0, .ref l1, .ref l2, .ref l3, .ref l4, .ref l5, .ref l6, .int dn, .int kn])), (l0, .inl (cI, 512, .inl m0)), (l1, .inl (cI, 512, .inl m1)), (l2, .inl (cI, 512, .inl m2)), (l3, .inl (cI, 512, .inl m3)), (l4, .inl (cI, 2048, .inl m4)), (l5, .inl (cI, 2048, .inl m5)), (nw, .inr (8, [.ref sf, .ref sh, .int tu])), (sf, .inl (cI, 40, .inl ff)), (ru, .inr (6, [.ref la, .ref gr, .ref rk, .ref rs, .ref rt, .int tt, .int kg, .ref rv, .int vc])), (rv, .inl (cI, 4, .inl fv))] (fun (u : Int32 × Int32 × (Nat → Int32) × (Nat → Int32) × (Nat → Int32) × (Nat → Int32) × (Nat → Int32) × (Nat → Int32)) => (u.1.toInt = dn.toInt + 1 ∧ (kn.toInt ≤ dn.toInt → u.2.1.toInt = dn.toInt + 1) ∧ (dn.toInt < kn.toInt → u.2.1 = kn)) ∧ (kt_r u.2.2.1 512 0 39 ∧ kt_r u.2.2.2.1 512 (-1) 80 ∧ kt_r u.2.2.2.2.1 512 (-1) 80 ∧ kt_r u.2.2.2.2.2.1 512 0 4 ∧ kt_r u.2.2.2.2.2.2.1 2048 0 39 ∧ kt_r u.2.2.2.2.2.2.2 2048 (-1) 80) ∧ (u.2.2.1 = upd m0 dn.toInt.toNat p1 ∧ u.2.2.2.1 = upd m1 dn.toInt.toNat (ff p1.toNatClampNeg) ∧ u.2.2.2.2.1 = upd m2 dn.toInt.toNat p2 ∧ u.2.2.2.2.2.1 = upd m3 dn.toInt.toNat vc) ∧ (∀ j : Nat, (j < 4 * dn.toInt.toNat ∨ 4 * dn.toInt.toNat + 4 ≤ j) → u.2.2.2.2.2.2.1 j = m4 j ∧ u.2.2.2.2.2.2.2 j = m5 j) ∧ (∀ i : Nat, (i : Int) < vc.toInt → u.2.2.2.2.2.2.1 (4 * dn.toInt.toNat + i) = fv i ∧ u.2.2.2.2.2.2.2 (4 * dn.toInt.toNat + i) = ff (fv i).toInt.toNat)) (fun (u : Int32 × Int32 × (Nat → Int32) × (Nat → Int32) × (Nat → Int32) × (Nat → Int32) × (Nat → Int32) × (Nat → Int32)) => [(lo, .inr (3, [.ref l0, .ref l1, .ref l2, .ref l3, .ref l4, .ref l5, .ref l6, .int u.1, .int u.2.1])), (l0, .inl (cI, 512, .inl u.2.2.1)), (l1, .inl (cI, 512, .inl u.2.2.2.1)), (l2, .inl (cI, 512, .inl u.2.2.2.2.1)), (l3, .inl (cI, 512, .inl u.2.2.2.2.2.1)), (l4, .inl (cI, 2048, .inl u.2.2.2.2.2.2.1)), (l5, .inl (cI, 2048, .inl u.2.2.2.2.2.2.2)), (nw, .inr (8, [.ref sf, .ref sh, .int tu])), (sf, .inl (cI, 40, .inl ff)), (ru, .inr (6, [.ref la, .ref gr, .ref rk, .ref rs, .ref rt, .int tt, .int kg, .ref rv, .int vc])), (rv, .inl (cI, 4, .inl fv))]) 0 0 := by
  refine kt_Mv.of (cc := cX3_write) (maxL := 6) (ret := none) (by decide) rfl (Nat.le_of_ble_eq_true rfl) ?_
  intro p e s m below meth c A ls H hAt hP hD hS hl
  obtain ⟨hx, hb, hr, hml, hown, hts, hN, hK, hlk, hnm, hA⟩ := hAt
  have hl : lv_has ls 6 [(0, .ref lo), (1, .ref nw), (2, .int p1), (3, .int p2), (4, .ref ru)] := hl
  have hown : s.vm.findClass RX3 = some m.cls := hown
  refine lv_aload_n hx hb dX3_write_0 rfl (lv_at hl 0 rfl) ?_
  refine kt_pi (wc := [(lo, .inr (3, [.ref l0, .ref l1, .ref l2, .ref l3, .ref l4, .ref l5, .ref l6, .int dn, .int kn]))]) [0] hP hD hS hA rfl (by decide) (fun hPc hDc => va_runV (As := []) (rest := []) ⟨hx, hb, hml, hown, hts⟩ (c_X3_isFull l D cI cZ cB H.size lo l0 l1 l2 l3 l4 l5 l6 dn kn ) (cwV 0 hts gX3_write_X3_isFull rfl rfl rfl (by decide +kernel) ⟨Nat.le_of_ble_eq_true rfl, Nat.le_of_ble_eq_true rfl⟩) (kt_preV hN hK hPc hDc 0 (ci := 3) (q := (RX3, TX3, 9)) rfl rfl) rfl rfl hl.1 rfl (lv_room (Nat.le_of_ble_eq_true rfl)) dX3_write_1 ⟨Nat.le_of_ble_eq_true rfl, Nat.le_of_ble_eq_true rfl⟩) (fun r_1 _ H locs hw_1 hP hS => ?_)
  have hq1 := hw_1
  refine lv_if_eq (tgt := 8) hx hb dX3_write_4 (by decide) (fun c_4 => ?_) (fun c_4 => ?_)
  · have d_4 := c_4
    simp only [kt_lt, kt_le, kt_eq, kt_c0, kt_c1, kt_c2, kt_c3, kt_c4, kt_c8, kt_c9, kt_cm1, kt_c81, kt_c40, kt_c7, kt_c5, kt_c6, kt_c512, kt_c10, kt_c10000] at d_4
    have hq1 := hq1.f c_4
    refine lv_aload_n hx hb dX3_write_8 rfl (lv_at hl 0 rfl) ?_
    refine va_get (D := D) (ci := 3) (C := RX3) (T := TX3) (N := 9) hx hb hts iw_X3_write_X3 hown hK hP 0 rfl rfl 0 (by decide) (hts (.fieldLink RX3 9 "KingTable$Log" "movers" "[I") (by decide +kernel)) (fun _ h9 => h9) rfl dX3_write_9 ?_
    refine lv_aload_n hx hb dX3_write_12 rfl (lv_at hl 0 rfl) ?_
    refine va_get (D := D) (ci := 3) (C := RX3) (T := TX3) (N := 9) hx hb hts iw_X3_write_X3 hown hK hP 0 rfl rfl 7 (by decide) (hts (.fieldLink RX3 33 "KingTable$Log" "done" "I") (by decide +kernel)) (fun _ h9 => h9) rfl dX3_write_13 ?_
    refine lv_iload_n hx hb dX3_write_16 rfl (lv_at hl 2 rfl) ?_
    have hi_1 : vp_in dn 512 := by exact kt_in (by omega) (by omega)
    refine va_iast hx hb hK hP hD hS 1 0 rfl rfl hi_1 dX3_write_17 (fun H locs hP hD hS => ?_)
    have hm0 : kt_r (upd m0 dn.toNatClampNeg p1) 512 0 39 := hm0.upd (by omega) (by omega)
    have hP : va_P D vwCl [(lo, .inr (3, [.ref l0, .ref l1, .ref l2, .ref l3, .ref l4, .ref l5, .ref l6, .int dn, .int kn])), (l0, .inl (cI, 512, .inl (upd m0 dn.toNatClampNeg p1))), (l1, .inl (cI, 512, .inl m1)), (l2, .inl (cI, 512, .inl m2)), (l3, .inl (cI, 512, .inl m3)), (l4, .inl (cI, 2048, .inl m4)), (l5, .inl (cI, 2048, .inl m5)), (nw, .inr (8, [.ref sf, .ref sh, .int tu])), (sf, .inl (cI, 40, .inl ff)), (ru, .inr (6, [.ref la, .ref gr, .ref rk, .ref rs, .ref rt, .int tt, .int kg, .ref rv, .int vc])), (rv, .inl (cI, 4, .inl fv))] H := hP
    have hD : va_D A [(lo, .inr (3, [.ref l0, .ref l1, .ref l2, .ref l3, .ref l4, .ref l5, .ref l6, .int dn, .int kn])), (l0, .inl (cI, 512, .inl (upd m0 dn.toNatClampNeg p1))), (l1, .inl (cI, 512, .inl m1)), (l2, .inl (cI, 512, .inl m2)), (l3, .inl (cI, 512, .inl m3)), (l4, .inl (cI, 2048, .inl m4)), (l5, .inl (cI, 2048, .inl m5)), (nw, .inr (8, [.ref sf, .ref sh, .int tu])), (sf, .inl (cI, 40, .inl ff)), (ru, .inr (6, [.ref la, .ref gr, .ref rk, .ref rs, .ref rt, .int tt, .int kg, .ref rv, .int vc])), (rv, .inl (cI, 4, .inl fv))] := hD
    refine lv_aload_n hx hb dX3_write_18 rfl (lv_at hl 0 rfl) ?_
    refine va_get (D := D) (ci := 3) (C := RX3) (T := TX3) (N := 9) hx hb hts iw_X3_write_X3 hown hK hP 0 rfl rfl 1 (by decide) (hts (.fieldLink RX3 15 "KingTable$Log" "froms" "[I") (by decide +kernel)) (fun _ h9 => h9) rfl dX3_write_19 ?_
    refine lv_aload_n hx hb dX3_write_22 rfl (lv_at hl 0 rfl) ?_
    refine va_get (D := D) (ci := 3) (C := RX3) (T := TX3) (N := 9) hx hb hts iw_X3_write_X3 hown hK hP 0 rfl rfl 7 (by decide) (hts (.fieldLink RX3 33 "KingTable$Log" "done" "I") (by decide +kernel)) (fun _ h9 => h9) rfl dX3_write_23 ?_
    refine lv_aload_n hx hb dX3_write_26 rfl (lv_at hl 1 rfl) ?_
    refine lv_iload_n hx hb dX3_write_27 rfl (lv_at hl 2 rfl) ?_
    refine kt_pi (wc := [(nw, .inr (8, [.ref sf, .ref sh, .int tu])), (sf, .inl (cI, 40, .inl ff))]) [7, 8] hP hD hS hA rfl (by decide) (fun hPc hDc => va_runV (As := [.int p1]) (rest := [.int dn, .ref l1]) ⟨hx, hb, hml, hown, hts⟩ (c_X8_fieldOfE l D cI cZ cB H.size nw sf sh tu ff p1 hff) (cwV 1 hts gX3_write_X8_fieldOf rfl rfl rfl (by decide +kernel) ⟨Nat.le_of_ble_eq_true rfl, Nat.le_of_ble_eq_true rfl⟩) (kt_preV hN hK hPc hDc 0 (ci := 8) (q := (RX8, TX8, 3)) rfl rfl) rfl rfl hl.1 rfl (lv_room (Nat.le_of_ble_eq_true rfl)) dX3_write_28 ⟨Nat.le_of_ble_eq_true rfl, Nat.le_of_ble_eq_true rfl⟩) (fun r_28 _ H locs hw_28 hP hS => ?_)
    have e28 := hw_28.1 (by omega)
    have hi_2 : vp_in dn 512 := by exact kt_in (by omega) (by omega)
    refine va_iast hx hb hK hP hD hS 2 0 rfl rfl hi_2 dX3_write_31 (fun H locs hP hD hS => ?_)
    have hm1 : kt_r (upd m1 dn.toNatClampNeg r_28) 512 (-1) 80 := hm1.upd (by omega) (by omega)
    have hP : va_P D vwCl [(lo, .inr (3, [.ref l0, .ref l1, .ref l2, .ref l3, .ref l4, .ref l5, .ref l6, .int dn, .int kn])), (l0, .inl (cI, 512, .inl (upd m0 dn.toNatClampNeg p1))), (l1, .inl (cI, 512, .inl (upd m1 dn.toNatClampNeg r_28))), (l2, .inl (cI, 512, .inl m2)), (l3, .inl (cI, 512, .inl m3)), (l4, .inl (cI, 2048, .inl m4)), (l5, .inl (cI, 2048, .inl m5)), (nw, .inr (8, [.ref sf, .ref sh, .int tu])), (sf, .inl (cI, 40, .inl ff)), (ru, .inr (6, [.ref la, .ref gr, .ref rk, .ref rs, .ref rt, .int tt, .int kg, .ref rv, .int vc])), (rv, .inl (cI, 4, .inl fv))] H := hP
    have hD : va_D A [(lo, .inr (3, [.ref l0, .ref l1, .ref l2, .ref l3, .ref l4, .ref l5, .ref l6, .int dn, .int kn])), (l0, .inl (cI, 512, .inl (upd m0 dn.toNatClampNeg p1))), (l1, .inl (cI, 512, .inl (upd m1 dn.toNatClampNeg r_28))), (l2, .inl (cI, 512, .inl m2)), (l3, .inl (cI, 512, .inl m3)), (l4, .inl (cI, 2048, .inl m4)), (l5, .inl (cI, 2048, .inl m5)), (nw, .inr (8, [.ref sf, .ref sh, .int tu])), (sf, .inl (cI, 40, .inl ff)), (ru, .inr (6, [.ref la, .ref gr, .ref rk, .ref rs, .ref rt, .int tt, .int kg, .ref rv, .int vc])), (rv, .inl (cI, 4, .inl fv))] := hD
    refine lv_aload_n hx hb dX3_write_32 rfl (lv_at hl 0 rfl) ?_
    refine va_get (D := D) (ci := 3) (C := RX3) (T := TX3) (N := 9) hx hb hts iw_X3_write_X3 hown hK hP 0 rfl rfl 2 (by decide) (hts (.fieldLink RX3 18 "KingTable$Log" "tos" "[I") (by decide +kernel)) (fun _ h9 => h9) rfl dX3_write_33 ?_
    refine lv_aload_n hx hb dX3_write_36 rfl (lv_at hl 0 rfl) ?_
    refine va_get (D := D) (ci := 3) (C := RX3) (T := TX3) (N := 9) hx hb hts iw_X3_write_X3 hown hK hP 0 rfl rfl 7 (by decide) (hts (.fieldLink RX3 33 "KingTable$Log" "done" "I") (by decide +kernel)) (fun _ h9 => h9) rfl dX3_write_37 ?_
    refine lv_iload_n hx hb dX3_write_40 rfl (lv_at hl 3 rfl) ?_
    have hi_3 : vp_in dn 512 := by exact kt_in (by omega) (by omega)
    refine va_iast hx hb hK hP hD hS 3 0 rfl rfl hi_3 dX3_write_41 (fun H locs hP hD hS => ?_)
    have hm2 : kt_r (upd m2 dn.toNatClampNeg p2) 512 (-1) 80 := hm2.upd (by omega) (by omega)
    have hP : va_P D vwCl [(lo, .inr (3, [.ref l0, .ref l1, .ref l2, .ref l3, .ref l4, .ref l5, .ref l6, .int dn, .int kn])), (l0, .inl (cI, 512, .inl (upd m0 dn.toNatClampNeg p1))), (l1, .inl (cI, 512, .inl (upd m1 dn.toNatClampNeg r_28))), (l2, .inl (cI, 512, .inl (upd m2 dn.toNatClampNeg p2))), (l3, .inl (cI, 512, .inl m3)), (l4, .inl (cI, 2048, .inl m4)), (l5, .inl (cI, 2048, .inl m5)), (nw, .inr (8, [.ref sf, .ref sh, .int tu])), (sf, .inl (cI, 40, .inl ff)), (ru, .inr (6, [.ref la, .ref gr, .ref rk, .ref rs, .ref rt, .int tt, .int kg, .ref rv, .int vc])), (rv, .inl (cI, 4, .inl fv))] H := hP
    have hD : va_D A [(lo, .inr (3, [.ref l0, .ref l1, .ref l2, .ref l3, .ref l4, .ref l5, .ref l6, .int dn, .int kn])), (l0, .inl (cI, 512, .inl (upd m0 dn.toNatClampNeg p1))), (l1, .inl (cI, 512, .inl (upd m1 dn.toNatClampNeg r_28))), (l2, .inl (cI, 512, .inl (upd m2 dn.toNatClampNeg p2))), (l3, .inl (cI, 512, .inl m3)), (l4, .inl (cI, 2048, .inl m4)), (l5, .inl (cI, 2048, .inl m5)), (nw, .inr (8, [.ref sf, .ref sh, .int tu])), (sf, .inl (cI, 40, .inl ff)), (ru, .inr (6, [.ref la, .ref gr, .ref rk, .ref rs, .ref rt, .int tt, .int kg, .ref rv, .int vc])), (rv, .inl (cI, 4, .inl fv))] := hD
    refine lv_aload_n hx hb dX3_write_42 rfl (lv_at hl 0 rfl) ?_
    refine va_get (D := D) (ci := 3) (C := RX3) (T := TX3) (N := 9) hx hb hts iw_X3_write_X3 hown hK hP 0 rfl rfl 3 (by decide) (hts (.fieldLink RX3 21 "KingTable$Log" "takings" "[I") (by decide +kernel)) (fun _ h9 => h9) rfl dX3_write_43 ?_
    refine lv_aload_n hx hb dX3_write_46 rfl (lv_at hl 0 rfl) ?_
    refine va_get (D := D) (ci := 3) (C := RX3) (T := TX3) (N := 9) hx hb hts iw_X3_write_X3 hown hK hP 0 rfl rfl 7 (by decide) (hts (.fieldLink RX3 33 "KingTable$Log" "done" "I") (by decide +kernel)) (fun _ h9 => h9) rfl dX3_write_47 ?_
    refine lv_aload hx hb dX3_write_50 (lv_at hl 4 rfl) ?_
    refine va_getN (D := D) (ci := 6) (C := RX6) (T := TX6) (N := 9) hx hb hts iw_X3_write_X6 hown hK hP 9 rfl rfl 8 (by decide) (va_Nw.use (w := .fieldLinkNest RX3 50 "KingTable$Rules" "victimCount" "I" "KingTable") rfl (hN _ (by decide +kernel))) (fun _ h9 => h9) rfl dX3_write_52 ?_
    have hi_4 : vp_in dn 512 := by exact kt_in (by omega) (by omega)
    refine va_iast hx hb hK hP hD hS 4 0 rfl rfl hi_4 dX3_write_55 (fun H locs hP hD hS => ?_)
    have hm3 : kt_r (upd m3 dn.toNatClampNeg vc) 512 0 4 := hm3.upd (by omega) (by omega)
    have hP : va_P D vwCl [(lo, .inr (3, [.ref l0, .ref l1, .ref l2, .ref l3, .ref l4, .ref l5, .ref l6, .int dn, .int kn])), (l0, .inl (cI, 512, .inl (upd m0 dn.toNatClampNeg p1))), (l1, .inl (cI, 512, .inl (upd m1 dn.toNatClampNeg r_28))), (l2, .inl (cI, 512, .inl (upd m2 dn.toNatClampNeg p2))), (l3, .inl (cI, 512, .inl (upd m3 dn.toNatClampNeg vc))), (l4, .inl (cI, 2048, .inl m4)), (l5, .inl (cI, 2048, .inl m5)), (nw, .inr (8, [.ref sf, .ref sh, .int tu])), (sf, .inl (cI, 40, .inl ff)), (ru, .inr (6, [.ref la, .ref gr, .ref rk, .ref rs, .ref rt, .int tt, .int kg, .ref rv, .int vc])), (rv, .inl (cI, 4, .inl fv))] H := hP
    have hD : va_D A [(lo, .inr (3, [.ref l0, .ref l1, .ref l2, .ref l3, .ref l4, .ref l5, .ref l6, .int dn, .int kn])), (l0, .inl (cI, 512, .inl (upd m0 dn.toNatClampNeg p1))), (l1, .inl (cI, 512, .inl (upd m1 dn.toNatClampNeg r_28))), (l2, .inl (cI, 512, .inl (upd m2 dn.toNatClampNeg p2))), (l3, .inl (cI, 512, .inl (upd m3 dn.toNatClampNeg vc))), (l4, .inl (cI, 2048, .inl m4)), (l5, .inl (cI, 2048, .inl m5)), (nw, .inr (8, [.ref sf, .ref sh, .int tu])), (sf, .inl (cI, 40, .inl ff)), (ru, .inr (6, [.ref la, .ref gr, .ref rk, .ref rs, .ref rt, .int tt, .int kg, .ref rv, .int vc])), (rv, .inl (cI, 4, .inl fv))] := hD
    refine lv_iconst (v := 0) hx hb dX3_write_56 (by decide) ?_
    refine lv_istore (lv' := [(5, .int 0), (0, .ref lo), (1, .ref nw), (2, .int p1), (3, .int p2), (4, .ref ru)]) hx hb dX3_write_57 hl (by decide) rfl (fun ls hl => ?_)
    refine kt_loop (σ := Nat × (Nat → Int32) × (Nat → Int32)) 59 6 (fun u => [(lo, .inr (3, [.ref l0, .ref l1, .ref l2, .ref l3, .ref l4, .ref l5, .ref l6, .int dn, .int kn])), (l0, .inl (cI, 512, .inl (upd m0 dn.toNatClampNeg p1))), (l1, .inl (cI, 512, .inl (upd m1 dn.toNatClampNeg r_28))), (l2, .inl (cI, 512, .inl (upd m2 dn.toNatClampNeg p2))), (l3, .inl (cI, 512, .inl (upd m3 dn.toNatClampNeg vc))), (l4, .inl (cI, 2048, .inl u.2.1)), (l5, .inl (cI, 2048, .inl u.2.2)), (nw, .inr (8, [.ref sf, .ref sh, .int tu])), (sf, .inl (cI, 40, .inl ff)), (ru, .inr (6, [.ref la, .ref gr, .ref rk, .ref rs, .ref rt, .int tt, .int kg, .ref rv, .int vc])), (rv, .inl (cI, 4, .inl fv))]) (fun u => [(5, .int (nI u.1)), (0, .ref lo), (1, .ref nw), (2, .int p1), (3, .int p2), (4, .ref ru)]) (fun n u => (u.1 ≤ 4 ∧ 4 < u.1 + n ∧ (u.1 : Int) ≤ vc.toInt) ∧ kt_r u.2.1 2048 0 39 ∧ kt_r u.2.2 2048 (-1) 80 ∧ (∀ j : Nat, (j < 4 * dn.toInt.toNat ∨ 4 * dn.toInt.toNat + 4 ≤ j) → u.2.1 j = m4 j ∧ u.2.2 j = m5 j) ∧ (∀ i : Nat, i < u.1 → u.2.1 (4 * dn.toInt.toNat + i) = fv i ∧ u.2.2 (4 * dn.toInt.toNat + i) = ff (fv i).toInt.toNat)) (fun u h => by omega) (fun n_59 ih_59 u hI H locs hP hD hS ls hl => ?_) (5) (0, m4, m5) (by show (0 ≤ 4 ∧ 4 < 0 + 5 ∧ (0 : Int) ≤ vc.toInt) ∧ kt_r m4 2048 0 39 ∧ kt_r m5 2048 (-1) 80 ∧ (∀ j : Nat, (j < 4 * dn.toInt.toNat ∨ 4 * dn.toInt.toNat + 4 ≤ j) → m4 j = m4 j ∧ m5 j = m5 j) ∧ (∀ i : Nat, i < 0 → m4 (4 * dn.toInt.toNat + i) = fv i ∧ m5 (4 * dn.toInt.toNat + i) = ff (fv i).toInt.toNat); exact ⟨⟨by decide, by decide, by omega⟩, hm4, hm5, fun _ _ => ⟨rfl, rfl⟩, fun i h => absurd h (Nat.not_lt_zero i)⟩) hP hD hS (lv_sub hl [0, 1, 2, 3, 4, 5] rfl)
    obtain ⟨k, g4, g5⟩ := u
    have hP : va_P D vwCl [(lo, .inr (3, [.ref l0, .ref l1, .ref l2, .ref l3, .ref l4, .ref l5, .ref l6, .int dn, .int kn])), (l0, .inl (cI, 512, .inl (upd m0 dn.toNatClampNeg p1))), (l1, .inl (cI, 512, .inl (upd m1 dn.toNatClampNeg r_28))), (l2, .inl (cI, 512, .inl (upd m2 dn.toNatClampNeg p2))), (l3, .inl (cI, 512, .inl (upd m3 dn.toNatClampNeg vc))), (l4, .inl (cI, 2048, .inl g4)), (l5, .inl (cI, 2048, .inl g5)), (nw, .inr (8, [.ref sf, .ref sh, .int tu])), (sf, .inl (cI, 40, .inl ff)), (ru, .inr (6, [.ref la, .ref gr, .ref rk, .ref rs, .ref rt, .int tt, .int kg, .ref rv, .int vc])), (rv, .inl (cI, 4, .inl fv))] H := hP
    have hD : va_D A [(lo, .inr (3, [.ref l0, .ref l1, .ref l2, .ref l3, .ref l4, .ref l5, .ref l6, .int dn, .int kn])), (l0, .inl (cI, 512, .inl (upd m0 dn.toNatClampNeg p1))), (l1, .inl (cI, 512, .inl (upd m1 dn.toNatClampNeg r_28))), (l2, .inl (cI, 512, .inl (upd m2 dn.toNatClampNeg p2))), (l3, .inl (cI, 512, .inl (upd m3 dn.toNatClampNeg vc))), (l4, .inl (cI, 2048, .inl g4)), (l5, .inl (cI, 2048, .inl g5)), (nw, .inr (8, [.ref sf, .ref sh, .int tu])), (sf, .inl (cI, 40, .inl ff)), (ru, .inr (6, [.ref la, .ref gr, .ref rk, .ref rs, .ref rt, .int tt, .int kg, .ref rv, .int vc])), (rv, .inl (cI, 4, .inl fv))] := hD
    have hl : lv_has ls 6 [(5, .int (nI k)), (0, .ref lo), (1, .ref nw), (2, .int p1), (3, .int p2), (4, .ref ru)] := hl
    have hI : (k ≤ 4 ∧ 4 < k + (n_59 + 1) ∧ (k : Int) ≤ vc.toInt) ∧ kt_r g4 2048 0 39 ∧ kt_r g5 2048 (-1) 80 ∧ (∀ j : Nat, (j < 4 * dn.toInt.toNat ∨ 4 * dn.toInt.toNat + 4 ≤ j) → g4 j = m4 j ∧ g5 j = m5 j) ∧ (∀ i : Nat, i < k → g4 (4 * dn.toInt.toNat + i) = fv i ∧ g5 (4 * dn.toInt.toNat + i) = ff (fv i).toInt.toNat) := hI
    obtain ⟨hkn0, hm4, hm5, hot, hin⟩ := hI
    have hk0 := kt_nI (n := k) (by omega)
    refine lv_iload hx hb dX3_write_59 (lv_at hl 0 rfl) ?_
    refine lv_aload hx hb dX3_write_61 (lv_at hl 5 rfl) ?_
    refine va_getN (D := D) (ci := 6) (C := RX6) (T := TX6) (N := 9) hx hb hts iw_X3_write_X6 hown hK hP 9 rfl rfl 8 (by decide) (va_Nw.use (w := .fieldLinkNest RX3 50 "KingTable$Rules" "victimCount" "I" "KingTable") rfl (hN _ (by decide +kernel))) (fun _ h9 => h9) rfl dX3_write_63 ?_
    refine lv_icmp_ge (tgt := 123) hx hb dX3_write_66 (by decide) (fun c_66 => ?_) (fun c_66 => ?_)
    · have d_66 := c_66
      simp only [kt_lt, kt_le, kt_eq, kt_c0, kt_c1, kt_c2, kt_c3, kt_c4, kt_c8, kt_c9, kt_cm1, kt_c81, kt_c40, kt_c7, kt_c5, kt_c6, kt_c512, kt_c10, kt_c10000] at d_66
      refine lv_aload_n hx hb dX3_write_123 rfl (lv_at hl 1 rfl) ?_
      refine lv_dup hx hb dX3_write_124 rfl ?_
      refine va_get (D := D) (ci := 3) (C := RX3) (T := TX3) (N := 9) hx hb hts iw_X3_write_X3 hown hK hP 0 rfl rfl 7 (by decide) (hts (.fieldLink RX3 33 "KingTable$Log" "done" "I") (by decide +kernel)) (fun _ h9 => h9) rfl dX3_write_125 ?_
      refine lv_iconst (v := 1) hx hb dX3_write_128 (by decide) ?_
      refine lv_iadd hx hb dX3_write_129 ?_
      refine lv_topi (fun t_129 et_129 => ?_)
      first | have hk_129 := kt_addx et_129 (by first | omega | (simp only [kt_c0, kt_c1, kt_c2, kt_c3, kt_c4, kt_c8, kt_c9, kt_cm1, kt_c81, kt_c40, kt_c7, kt_c5, kt_c6, kt_c512, kt_c10, kt_c10000]; omega)) (by first | omega | (simp only [kt_c0, kt_c1, kt_c2, kt_c3, kt_c4, kt_c8, kt_c9, kt_cm1, kt_c81, kt_c40, kt_c7, kt_c5, kt_c6, kt_c512, kt_c10, kt_c10000]; omega)) | obtain ⟨k_129, hk_129, hm_129, hM_129⟩ := kt_addk et_129
      try simp only [kt_c0, kt_c1, kt_c2, kt_c3, kt_c4, kt_c8, kt_c9, kt_cm1, kt_c81, kt_c40, kt_c7, kt_c5, kt_c6, kt_c512, kt_c10, kt_c10000] at hk_129
      refine va_put (D := D) (ci := 3) (v := .int t_129) (ty := .int) (C := RX3) (T := TX3) (N := 9) hx hb hts iw_X3_write_X3 tyX3 tyX3_ok nmX3 hown hK hP hD hS 0 rfl rfl 7 (by decide) (hts (.fieldLink RX3 33 "KingTable$Log" "done" "I") (by decide +kernel)) (fun _ h9 => h9) rfl (by decide +kernel) rfl rfl (Nat.le_of_ble_eq_true rfl) dX3_write_130 (fun H locs hP hD hS => ?_)
      have hP : va_P D vwCl [(lo, .inr (3, [.ref l0, .ref l1, .ref l2, .ref l3, .ref l4, .ref l5, .ref l6, .int t_129, .int kn])), (l0, .inl (cI, 512, .inl (upd m0 dn.toNatClampNeg p1))), (l1, .inl (cI, 512, .inl (upd m1 dn.toNatClampNeg r_28))), (l2, .inl (cI, 512, .inl (upd m2 dn.toNatClampNeg p2))), (l3, .inl (cI, 512, .inl (upd m3 dn.toNatClampNeg vc))), (l4, .inl (cI, 2048, .inl g4)), (l5, .inl (cI, 2048, .inl g5)), (nw, .inr (8, [.ref sf, .ref sh, .int tu])), (sf, .inl (cI, 40, .inl ff)), (ru, .inr (6, [.ref la, .ref gr, .ref rk, .ref rs, .ref rt, .int tt, .int kg, .ref rv, .int vc])), (rv, .inl (cI, 4, .inl fv))] H := hP
      have hD : va_D A [(lo, .inr (3, [.ref l0, .ref l1, .ref l2, .ref l3, .ref l4, .ref l5, .ref l6, .int t_129, .int kn])), (l0, .inl (cI, 512, .inl (upd m0 dn.toNatClampNeg p1))), (l1, .inl (cI, 512, .inl (upd m1 dn.toNatClampNeg r_28))), (l2, .inl (cI, 512, .inl (upd m2 dn.toNatClampNeg p2))), (l3, .inl (cI, 512, .inl (upd m3 dn.toNatClampNeg vc))), (l4, .inl (cI, 2048, .inl g4)), (l5, .inl (cI, 2048, .inl g5)), (nw, .inr (8, [.ref sf, .ref sh, .int tu])), (sf, .inl (cI, 40, .inl ff)), (ru, .inr (6, [.ref la, .ref gr, .ref rk, .ref rs, .ref rt, .int tt, .int kg, .ref rv, .int vc])), (rv, .inl (cI, 4, .inl fv))] := hD
      refine lv_aload_n hx hb dX3_write_133 rfl (lv_at hl 1 rfl) ?_
      refine lv_aload_n hx hb dX3_write_134 rfl (lv_at hl 1 rfl) ?_
      refine va_get (D := D) (ci := 3) (C := RX3) (T := TX3) (N := 9) hx hb hts iw_X3_write_X3 hown hK hP 0 rfl rfl 8 (by decide) (hts (.fieldLink RX3 37 "KingTable$Log" "known" "I") (by decide +kernel)) (fun _ h9 => h9) rfl dX3_write_135 ?_
      refine lv_aload_n hx hb dX3_write_138 rfl (lv_at hl 1 rfl) ?_
      refine va_get (D := D) (ci := 3) (C := RX3) (T := TX3) (N := 9) hx hb hts iw_X3_write_X3 hown hK hP 0 rfl rfl 7 (by decide) (hts (.fieldLink RX3 33 "KingTable$Log" "done" "I") (by decide +kernel)) (fun _ h9 => h9) rfl dX3_write_139 ?_
      refine va_mmax hx hb (by rw [hml]; exact hl.1.symm) hown (hts (.methodLink RX3 56 Lib.Math.max.name) (by decide +kernel)) (hts (.static Lib.Math.max.name) (by decide +kernel)) (hts (.initialized "java/lang/Math") (by decide +kernel)) (hts (.code Lib.Math.max.name Lib.Math.max.code 2 (some .int)) (by decide +kernel)) (Nat.le_of_ble_eq_true rfl) (Nat.le_of_ble_eq_true rfl) (Nat.le_of_ble_eq_true rfl) (Nat.le_of_ble_eq_true rfl) dX3_write_142 ?_
      refine va_put (D := D) (ci := 3) (v := .int (if kn < t_129 then t_129 else kn)) (ty := .int) (C := RX3) (T := TX3) (N := 9) hx hb hts iw_X3_write_X3 tyX3 tyX3_ok nmX3 hown hK hP hD hS 0 rfl rfl 8 (by decide) (hts (.fieldLink RX3 37 "KingTable$Log" "known" "I") (by decide +kernel)) (fun _ h9 => h9) rfl (by decide +kernel) rfl rfl (Nat.le_of_ble_eq_true rfl) dX3_write_145 (fun H locs hP hD hS => ?_)
      have hP : va_P D vwCl [(lo, .inr (3, [.ref l0, .ref l1, .ref l2, .ref l3, .ref l4, .ref l5, .ref l6, .int t_129, .int (if kn < t_129 then t_129 else kn)])), (l0, .inl (cI, 512, .inl (upd m0 dn.toNatClampNeg p1))), (l1, .inl (cI, 512, .inl (upd m1 dn.toNatClampNeg r_28))), (l2, .inl (cI, 512, .inl (upd m2 dn.toNatClampNeg p2))), (l3, .inl (cI, 512, .inl (upd m3 dn.toNatClampNeg vc))), (l4, .inl (cI, 2048, .inl g4)), (l5, .inl (cI, 2048, .inl g5)), (nw, .inr (8, [.ref sf, .ref sh, .int tu])), (sf, .inl (cI, 40, .inl ff)), (ru, .inr (6, [.ref la, .ref gr, .ref rk, .ref rs, .ref rt, .int tt, .int kg, .ref rv, .int vc])), (rv, .inl (cI, 4, .inl fv))] H := hP
      have hD : va_D A [(lo, .inr (3, [.ref l0, .ref l1, .ref l2, .ref l3, .ref l4, .ref l5, .ref l6, .int t_129, .int (if kn < t_129 then t_129 else kn)])), (l0, .inl (cI, 512, .inl (upd m0 dn.toNatClampNeg p1))), (l1, .inl (cI, 512, .inl (upd m1 dn.toNatClampNeg r_28))), (l2, .inl (cI, 512, .inl (upd m2 dn.toNatClampNeg p2))), (l3, .inl (cI, 512, .inl (upd m3 dn.toNatClampNeg vc))), (l4, .inl (cI, 2048, .inl g4)), (l5, .inl (cI, 2048, .inl g5)), (nw, .inr (8, [.ref sf, .ref sh, .int tu])), (sf, .inl (cI, 40, .inl ff)), (ru, .inr (6, [.ref la, .ref gr, .ref rk, .ref rs, .ref rt, .int tt, .int kg, .ref rv, .int vc])), (rv, .inl (cI, 4, .inl fv))] := hD
      exact kt_rv (t_129, if kn < t_129 then t_129 else kn, upd m0 dn.toNatClampNeg p1, upd m1 dn.toNatClampNeg r_28, upd m2 dn.toNatClampNeg p2, upd m3 dn.toNatClampNeg vc, g4, g5) hx hb hr hlk hS dX3_write_148 hP hD (by show (t_129.toInt = dn.toInt + 1 ∧ (kn.toInt ≤ dn.toInt → (if kn < t_129 then t_129 else kn).toInt = dn.toInt + 1) ∧ (dn.toInt < kn.toInt → (if kn < t_129 then t_129 else kn) = kn)) ∧ (kt_r (upd m0 dn.toNatClampNeg p1) 512 0 39 ∧ kt_r (upd m1 dn.toNatClampNeg r_28) 512 (-1) 80 ∧ kt_r (upd m2 dn.toNatClampNeg p2) 512 (-1) 80 ∧ kt_r (upd m3 dn.toNatClampNeg vc) 512 0 4 ∧ kt_r g4 2048 0 39 ∧ kt_r g5 2048 (-1) 80) ∧ ((upd m0 dn.toNatClampNeg p1) = upd m0 dn.toInt.toNat p1 ∧ (upd m1 dn.toNatClampNeg r_28) = upd m1 dn.toInt.toNat (ff p1.toNatClampNeg) ∧ (upd m2 dn.toNatClampNeg p2) = upd m2 dn.toInt.toNat p2 ∧ (upd m3 dn.toNatClampNeg vc) = upd m3 dn.toInt.toNat vc) ∧ (∀ j : Nat, (j < 4 * dn.toInt.toNat ∨ 4 * dn.toInt.toNat + 4 ≤ j) → g4 j = m4 j ∧ g5 j = m5 j) ∧ (∀ i : Nat, (i : Int) < vc.toInt → g4 (4 * dn.toInt.toNat + i) = fv i ∧ g5 (4 * dn.toInt.toNat + i) = ff (fv i).toInt.toNat); first | (exfalso; have := hq1.t c_4; omega) | exact ⟨⟨by omega, fun h => by rw [if_pos ((kt_lt _ _).mpr (by omega))]; omega, fun h => if_neg (fun h2 => by have h3 := (kt_lt _ _).mp h2; omega)⟩, ⟨hm0, hm1, hm2, hm3, hm4, hm5⟩, ⟨rfl, by rw [e28]; rfl, rfl, rfl⟩, hot, fun i hi => hin i (by omega)⟩)
    · have d_66 := c_66
      simp only [kt_lt, kt_le, kt_eq, kt_c0, kt_c1, kt_c2, kt_c3, kt_c4, kt_c8, kt_c9, kt_cm1, kt_c81, kt_c40, kt_c7, kt_c5, kt_c6, kt_c512, kt_c10, kt_c10000] at d_66
      refine lv_aload_n hx hb dX3_write_69 rfl (lv_at hl 1 rfl) ?_
      refine va_get (D := D) (ci := 3) (C := RX3) (T := TX3) (N := 9) hx hb hts iw_X3_write_X3 hown hK hP 0 rfl rfl 4 (by decide) (hts (.fieldLink RX3 24 "KingTable$Log" "victims" "[I") (by decide +kernel)) (fun _ h9 => h9) rfl dX3_write_70 ?_
      refine lv_aload_n hx hb dX3_write_73 rfl (lv_at hl 1 rfl) ?_
      refine va_get (D := D) (ci := 3) (C := RX3) (T := TX3) (N := 9) hx hb hts iw_X3_write_X3 hown hK hP 0 rfl rfl 7 (by decide) (hts (.fieldLink RX3 33 "KingTable$Log" "done" "I") (by decide +kernel)) (fun _ h9 => h9) rfl dX3_write_74 ?_
      refine lv_iconst (v := 4) hx hb dX3_write_77 (by decide) ?_
      refine lv_imul hx hb dX3_write_78 ?_
      refine lv_topi (fun t_78 et_78 => ?_)
      obtain ⟨k_78, hk_78, hm_78, hM_78⟩ := kt_mulk (C := 4) et_78 (by decide)
      try simp only [kt_c0, kt_c1, kt_c2, kt_c3, kt_c4, kt_c8, kt_c9, kt_cm1, kt_c81, kt_c40, kt_c7, kt_c5, kt_c6, kt_c512, kt_c10, kt_c10000] at hk_78
      refine lv_iload hx hb dX3_write_79 (lv_at hl 0 rfl) ?_
      refine lv_iadd hx hb dX3_write_81 ?_
      refine lv_topi (fun t_81 et_81 => ?_)
      first | have hk_81 := kt_addx et_81 (by first | omega | (simp only [kt_c0, kt_c1, kt_c2, kt_c3, kt_c4, kt_c8, kt_c9, kt_cm1, kt_c81, kt_c40, kt_c7, kt_c5, kt_c6, kt_c512, kt_c10, kt_c10000]; omega)) (by first | omega | (simp only [kt_c0, kt_c1, kt_c2, kt_c3, kt_c4, kt_c8, kt_c9, kt_cm1, kt_c81, kt_c40, kt_c7, kt_c5, kt_c6, kt_c512, kt_c10, kt_c10000]; omega)) | obtain ⟨k_81, hk_81, hm_81, hM_81⟩ := kt_addk et_81
      refine lv_aload hx hb dX3_write_82 (lv_at hl 5 rfl) ?_
      refine va_getN (D := D) (ci := 6) (C := RX6) (T := TX6) (N := 9) hx hb hts iw_X3_write_X6 hown hK hP 9 rfl rfl 7 (by decide) (va_Nw.use (w := .fieldLinkNest RX3 55 "KingTable$Rules" "victims" "[I" "KingTable") rfl (hN _ (by decide +kernel))) (fun _ h9 => h9) rfl dX3_write_84 ?_
      refine lv_iload hx hb dX3_write_87 (lv_at hl 0 rfl) ?_
      have hi_5 : vp_in (nI k) 4 := by exact kt_in (by omega) (by omega)
      refine va_iald hx hb hK hP 10 0 rfl rfl hi_5 dX3_write_89 ?_
      refine lv_topi (fun a_89 ea_89 => ?_)
      have ra_89 := hrv.get hi_5
      rw [← ea_89] at ra_89
      have e89 : a_89 = fv k := by rw [ea_89, nI_clamp (by omega)]
      have hi_6 : vp_in t_81 2048 := by exact kt_in (by omega) (by omega)
      refine va_iast hx hb hK hP hD hS 5 0 rfl rfl hi_6 dX3_write_90 (fun H locs hP hD hS => ?_)
      have hm4 : kt_r (upd g4 t_81.toNatClampNeg a_89) 2048 0 39 := hm4.upd (by omega) (by omega)
      have hP : va_P D vwCl [(lo, .inr (3, [.ref l0, .ref l1, .ref l2, .ref l3, .ref l4, .ref l5, .ref l6, .int dn, .int kn])), (l0, .inl (cI, 512, .inl (upd m0 dn.toNatClampNeg p1))), (l1, .inl (cI, 512, .inl (upd m1 dn.toNatClampNeg r_28))), (l2, .inl (cI, 512, .inl (upd m2 dn.toNatClampNeg p2))), (l3, .inl (cI, 512, .inl (upd m3 dn.toNatClampNeg vc))), (l4, .inl (cI, 2048, .inl (upd g4 t_81.toNatClampNeg a_89))), (l5, .inl (cI, 2048, .inl g5)), (nw, .inr (8, [.ref sf, .ref sh, .int tu])), (sf, .inl (cI, 40, .inl ff)), (ru, .inr (6, [.ref la, .ref gr, .ref rk, .ref rs, .ref rt, .int tt, .int kg, .ref rv, .int vc])), (rv, .inl (cI, 4, .inl fv))] H := hP
      have hD : va_D A [(lo, .inr (3, [.ref l0, .ref l1, .ref l2, .ref l3, .ref l4, .ref l5, .ref l6, .int dn, .int kn])), (l0, .inl (cI, 512, .inl (upd m0 dn.toNatClampNeg p1))), (l1, .inl (cI, 512, .inl (upd m1 dn.toNatClampNeg r_28))), (l2, .inl (cI, 512, .inl (upd m2 dn.toNatClampNeg p2))), (l3, .inl (cI, 512, .inl (upd m3 dn.toNatClampNeg vc))), (l4, .inl (cI, 2048, .inl (upd g4 t_81.toNatClampNeg a_89))), (l5, .inl (cI, 2048, .inl g5)), (nw, .inr (8, [.ref sf, .ref sh, .int tu])), (sf, .inl (cI, 40, .inl ff)), (ru, .inr (6, [.ref la, .ref gr, .ref rk, .ref rs, .ref rt, .int tt, .int kg, .ref rv, .int vc])), (rv, .inl (cI, 4, .inl fv))] := hD
      refine lv_aload_n hx hb dX3_write_91 rfl (lv_at hl 1 rfl) ?_
      refine va_get (D := D) (ci := 3) (C := RX3) (T := TX3) (N := 9) hx hb hts iw_X3_write_X3 hown hK hP 0 rfl rfl 5 (by decide) (hts (.fieldLink RX3 27 "KingTable$Log" "victimFields" "[I") (by decide +kernel)) (fun _ h9 => h9) rfl dX3_write_92 ?_
      refine lv_aload_n hx hb dX3_write_95 rfl (lv_at hl 1 rfl) ?_
      refine va_get (D := D) (ci := 3) (C := RX3) (T := TX3) (N := 9) hx hb hts iw_X3_write_X3 hown hK hP 0 rfl rfl 7 (by decide) (hts (.fieldLink RX3 33 "KingTable$Log" "done" "I") (by decide +kernel)) (fun _ h9 => h9) rfl dX3_write_96 ?_
      refine lv_iconst (v := 4) hx hb dX3_write_99 (by decide) ?_
      refine lv_imul hx hb dX3_write_100 ?_
      refine lv_topi (fun t_100 et_100 => ?_)
      obtain ⟨k_100, hk_100, hm_100, hM_100⟩ := kt_mulk (C := 4) et_100 (by decide)
      try simp only [kt_c0, kt_c1, kt_c2, kt_c3, kt_c4, kt_c8, kt_c9, kt_cm1, kt_c81, kt_c40, kt_c7, kt_c5, kt_c6, kt_c512, kt_c10, kt_c10000] at hk_100
      refine lv_iload hx hb dX3_write_101 (lv_at hl 0 rfl) ?_
      refine lv_iadd hx hb dX3_write_103 ?_
      refine lv_topi (fun t_103 et_103 => ?_)
      first | have hk_103 := kt_addx et_103 (by first | omega | (simp only [kt_c0, kt_c1, kt_c2, kt_c3, kt_c4, kt_c8, kt_c9, kt_cm1, kt_c81, kt_c40, kt_c7, kt_c5, kt_c6, kt_c512, kt_c10, kt_c10000]; omega)) (by first | omega | (simp only [kt_c0, kt_c1, kt_c2, kt_c3, kt_c4, kt_c8, kt_c9, kt_cm1, kt_c81, kt_c40, kt_c7, kt_c5, kt_c6, kt_c512, kt_c10, kt_c10000]; omega)) | obtain ⟨k_103, hk_103, hm_103, hM_103⟩ := kt_addk et_103
      refine lv_aload_n hx hb dX3_write_104 rfl (lv_at hl 2 rfl) ?_
      refine lv_aload hx hb dX3_write_105 (lv_at hl 5 rfl) ?_
      refine va_getN (D := D) (ci := 6) (C := RX6) (T := TX6) (N := 9) hx hb hts iw_X3_write_X6 hown hK hP 9 rfl rfl 7 (by decide) (va_Nw.use (w := .fieldLinkNest RX3 55 "KingTable$Rules" "victims" "[I" "KingTable") rfl (hN _ (by decide +kernel))) (fun _ h9 => h9) rfl dX3_write_107 ?_
      refine lv_iload hx hb dX3_write_110 (lv_at hl 0 rfl) ?_
      have hi_7 : vp_in (nI k) 4 := by exact kt_in (by omega) (by omega)
      refine va_iald hx hb hK hP 10 0 rfl rfl hi_7 dX3_write_112 ?_
      refine lv_topi (fun a_112 ea_112 => ?_)
      have ra_112 := hrv.get hi_7
      rw [← ea_112] at ra_112
      have e112 : a_112 = fv k := by rw [ea_112, nI_clamp (by omega)]
      refine kt_pi (wc := [(nw, .inr (8, [.ref sf, .ref sh, .int tu])), (sf, .inl (cI, 40, .inl ff))]) [7, 8] hP hD hS hA rfl (by decide) (fun hPc hDc => va_runV (As := [.int a_112]) (rest := [.int t_103, .ref l5]) ⟨hx, hb, hml, hown, hts⟩ (c_X8_fieldOfE l D cI cZ cB H.size nw sf sh tu ff a_112 hff) (cwV 1 hts gX3_write_X8_fieldOf rfl rfl rfl (by decide +kernel) ⟨Nat.le_of_ble_eq_true rfl, Nat.le_of_ble_eq_true rfl⟩) (kt_preV hN hK hPc hDc 0 (ci := 8) (q := (RX8, TX8, 3)) rfl rfl) rfl rfl hl.1 rfl (lv_room (Nat.le_of_ble_eq_true rfl)) dX3_write_113 ⟨Nat.le_of_ble_eq_true rfl, Nat.le_of_ble_eq_true rfl⟩) (fun r_113 _ H locs hw_113 hP hS => ?_)
      have e113 := hw_113.1 (by omega)
      have hi_8 : vp_in t_103 2048 := by exact kt_in (by omega) (by omega)
      refine va_iast hx hb hK hP hD hS 6 0 rfl rfl hi_8 dX3_write_116 (fun H locs hP hD hS => ?_)
      have hm5 : kt_r (upd g5 t_103.toNatClampNeg r_113) 2048 (-1) 80 := hm5.upd (by omega) (by omega)
      have hP : va_P D vwCl [(lo, .inr (3, [.ref l0, .ref l1, .ref l2, .ref l3, .ref l4, .ref l5, .ref l6, .int dn, .int kn])), (l0, .inl (cI, 512, .inl (upd m0 dn.toNatClampNeg p1))), (l1, .inl (cI, 512, .inl (upd m1 dn.toNatClampNeg r_28))), (l2, .inl (cI, 512, .inl (upd m2 dn.toNatClampNeg p2))), (l3, .inl (cI, 512, .inl (upd m3 dn.toNatClampNeg vc))), (l4, .inl (cI, 2048, .inl (upd g4 t_81.toNatClampNeg a_89))), (l5, .inl (cI, 2048, .inl (upd g5 t_103.toNatClampNeg r_113))), (nw, .inr (8, [.ref sf, .ref sh, .int tu])), (sf, .inl (cI, 40, .inl ff)), (ru, .inr (6, [.ref la, .ref gr, .ref rk, .ref rs, .ref rt, .int tt, .int kg, .ref rv, .int vc])), (rv, .inl (cI, 4, .inl fv))] H := hP
      have hD : va_D A [(lo, .inr (3, [.ref l0, .ref l1, .ref l2, .ref l3, .ref l4, .ref l5, .ref l6, .int dn, .int kn])), (l0, .inl (cI, 512, .inl (upd m0 dn.toNatClampNeg p1))), (l1, .inl (cI, 512, .inl (upd m1 dn.toNatClampNeg r_28))), (l2, .inl (cI, 512, .inl (upd m2 dn.toNatClampNeg p2))), (l3, .inl (cI, 512, .inl (upd m3 dn.toNatClampNeg vc))), (l4, .inl (cI, 2048, .inl (upd g4 t_81.toNatClampNeg a_89))), (l5, .inl (cI, 2048, .inl (upd g5 t_103.toNatClampNeg r_113))), (nw, .inr (8, [.ref sf, .ref sh, .int tu])), (sf, .inl (cI, 40, .inl ff)), (ru, .inr (6, [.ref la, .ref gr, .ref rk, .ref rs, .ref rt, .int tt, .int kg, .ref rv, .int vc])), (rv, .inl (cI, 4, .inl fv))] := hD
      refine lv_iinc (v := nI (k + 1)) (lv' := [(5, .int (nI (k + 1))), (0, .ref lo), (1, .ref nw), (2, .int p1), (3, .int p2), (4, .ref ru)]) hx hb dX3_write_117 hl (k := 0) rfl (nI_1 _) (by decide) rfl (fun ls hl => ?_)
      refine lv_goto (tgt := 59) hx hb dX3_write_120 (by decide) ?_
      exact ih_59 ((k + 1), (upd g4 t_81.toNatClampNeg a_89), (upd g5 t_103.toNatClampNeg r_113)) (by show ((k + 1) ≤ 4 ∧ 4 < (k + 1) + n_59 ∧ ((k + 1) : Int) ≤ vc.toInt) ∧ kt_r (upd g4 t_81.toNatClampNeg a_89) 2048 0 39 ∧ kt_r (upd g5 t_103.toNatClampNeg r_113) 2048 (-1) 80 ∧ (∀ j : Nat, (j < 4 * dn.toInt.toNat ∨ 4 * dn.toInt.toNat + 4 ≤ j) → (upd g4 t_81.toNatClampNeg a_89) j = m4 j ∧ (upd g5 t_103.toNatClampNeg r_113) j = m5 j) ∧ (∀ i : Nat, i < (k + 1) → (upd g4 t_81.toNatClampNeg a_89) (4 * dn.toInt.toNat + i) = fv i ∧ (upd g5 t_103.toNatClampNeg r_113) (4 * dn.toInt.toNat + i) = ff (fv i).toInt.toNat); rw [kt_clamp (x := t_81) (n := 4 * dn.toInt.toNat + k) (by omega), kt_clamp (x := t_103) (n := 4 * dn.toInt.toNat + k) (by omega)] at *; exact ⟨by omega, hm4, hm5, fun j hj => by rw [pk_un (by omega), pk_un (by omega)]; exact hot j hj, fun i hi => if e : i = k then (by rw [e, pk_us, pk_us]; exact ⟨e89, by rw [e113, e112]; rfl⟩) else (by rw [pk_un (by omega), pk_un (by omega)]; exact hin i (by omega))⟩) H _ hP hD hS ls (lv_sub hl [0, 1, 2, 3, 4, 5] rfl)
  · have d_4 := c_4
    simp only [kt_lt, kt_le, kt_eq, kt_c0, kt_c1, kt_c2, kt_c3, kt_c4, kt_c8, kt_c9, kt_cm1, kt_c81, kt_c40, kt_c7, kt_c5, kt_c6, kt_c512, kt_c10, kt_c10000] at d_4
    exact kt_rv (dn, kn, m0, m1, m2, m3, m4, m5) hx hb hr hlk hS dX3_write_7 hP hD (by show (dn.toInt = dn.toInt + 1 ∧ (kn.toInt ≤ dn.toInt → kn.toInt = dn.toInt + 1) ∧ (dn.toInt < kn.toInt → kn = kn)) ∧ (kt_r m0 512 0 39 ∧ kt_r m1 512 (-1) 80 ∧ kt_r m2 512 (-1) 80 ∧ kt_r m3 512 0 4 ∧ kt_r m4 2048 0 39 ∧ kt_r m5 2048 (-1) 80) ∧ (m0 = upd m0 dn.toInt.toNat p1 ∧ m1 = upd m1 dn.toInt.toNat (ff p1.toNatClampNeg) ∧ m2 = upd m2 dn.toInt.toNat p2 ∧ m3 = upd m3 dn.toInt.toNat vc) ∧ (∀ j : Nat, (j < 4 * dn.toInt.toNat ∨ 4 * dn.toInt.toNat + 4 ≤ j) → m4 j = m4 j ∧ m5 j = m5 j) ∧ (∀ i : Nat, (i : Int) < vc.toInt → m4 (4 * dn.toInt.toNat + i) = fv i ∧ m5 (4 * dn.toInt.toNat + i) = ff (fv i).toInt.toNat); first | (exfalso; have := hq1.t c_4; omega) | exact ⟨⟨by omega, fun h => by rw [if_pos ((kt_lt _ _).mpr (by omega))]; omega, fun h => if_neg (fun h2 => by have h3 := (kt_lt _ _).mp h2; omega)⟩, ⟨hm0, hm1, hm2, hm3, hm4, hm5⟩, ⟨rfl, by rw [e28]; rfl, rfl, rfl⟩, hot, fun i hi => hin i (by omega)⟩)

set_option maxHeartbeats 4000000 in
set_option maxRecDepth 100000 in
theorem c_X3_hasSeenE (l : Launch) (D : va_G) (cI cZ cB : ClassId) (sz : Nat) (lo : Nat) (l0 : Nat) (l1 : Nat) (l2 : Nat) (l3 : Nat) (l4 : Nat) (l5 : Nat) (l6 : Nat) (dn : Int32) (kn : Int32) (m0 : Nat → Int32) (m1 : Nat → Int32) (m3 : Nat → Int32) (m6 : Nat → Int32) (nw : Nat) (sf : Nat) (sh : Nat) (tu : Int32) (ff : Nat → Int32) (w_ : Int) (L_ : Int) (P_ : Nat) (fr : Nat → Int32) (fk : Nat → Int32) (A0_ : Nat → Int32) (mv_ : Nat → Int32) (s0_ : Int) (lt : Int32) (lh : Int32) (fh : Nat → Int32) (m2 : Nat → Int32) (m4 : Nat → Int32) (m5 : Nat → Int32) (p1 : Int32) (p2 : Int32) (hdn : 0 ≤ dn.toInt ∧ dn.toInt ≤ 512) (hm0 : kt_r m0 512 0 39) (hm1 : kt_r m1 512 (-1) 80) (hm3 : kt_r m3 512 0 4) (hm6 : kt_r m6 40 (-1) 80) (hff : kt_r ff 40 (-1) 80) (hci : kt_CI w_ L_ P_ fr fk lt lh A0_ mv_ s0_ dn kn tu ff fh m0 m1 m2 m3 m4 m5) (hwl : (2 ≤ w_ ∧ w_ ≤ 9) ∧ (2 ≤ L_ ∧ L_ ≤ 9) ∧ P_ ≤ 40) (hp1 : 0 ≤ p1.toInt ∧ p1.toInt < (P_ : Int)) (hxo : ¬ ff p1.toNatClampNeg = -1) (hne : ¬ ff p1.toNatClampNeg = p2) (hp2 : -1 ≤ p2.toInt ∧ p2.toInt ≤ 80) : kt_Mi l yX3_hasSeen wsX3_hasSeen { frames := 1, cells := 0, slots := 0, locals := 60 } D (kt_ty cI cZ cB) [.ref lo, .ref nw, .int p1, .int p2] sz [(lo, .inr (3, [.ref l0, .ref l1, .ref l2, .ref l3, .ref l4, .ref l5, .ref l6, .int dn, .int kn])), (l0, .inl (cI, 512, .inl m0)), (l1, .inl (cI, 512, .inl m1)), (l3, .inl (cI, 512, .inl m3)), (l6, .inl (cI, 40, .inl m6)), (nw, .inr (8, [.ref sf, .ref sh, .int tu])), (sf, .inl (cI, 40, .inl ff))] (fun (r : Int32) (u : (Nat → Int32)) => kt_B r (∃ k : Nat, (k : Int) < dn.toInt ∧ (kt_S (kt_stepf P_ w_ L_ fr fk lt lh) A0_ mv_ k) = upd (kt_S (kt_stepf P_ w_ L_ fr fk lt lh) A0_ mv_ dn.toInt.toNat) p1.toInt.toNat p2 ∧ (dn.toInt.toNat - k) % 2 = 1) ∧ kt_r u 40 (-1) 80) (fun (u : (Nat → Int32)) => [(lo, .inr (3, [.ref l0, .ref l1, .ref l2, .ref l3, .ref l4, .ref l5, .ref l6, .int dn, .int kn])), (l0, .inl (cI, 512, .inl m0)), (l1, .inl (cI, 512, .inl m1)), (l3, .inl (cI, 512, .inl m3)), (l6, .inl (cI, 40, .inl u)), (nw, .inr (8, [.ref sf, .ref sh, .int tu])), (sf, .inl (cI, 40, .inl ff))]) 0 0 := by
  refine kt_Mi.of (cc := cX3_hasSeen) (maxL := 9) (ret := some .boolean) (by decide) rfl (Nat.le_of_ble_eq_true rfl) ?_
  intro p e s m below meth c A ls H hAt hP hD hS hl
  obtain ⟨hx, hb, hr, hml, hown, hts, hN, hK, hlk, hnm, hA⟩ := hAt
  have hl : lv_has ls 9 [(0, .ref lo), (1, .ref nw), (2, .int p1), (3, .int p2)] := hl
  have hown : s.vm.findClass RX3 = some m.cls := hown
  obtain ⟨⟨hd_, hs0_, htu_⟩, hst_, hcut, ⟨hA0, hinj0, hA0o⟩, hlog⟩ := hci
  have hw_ := hwl.1
  have hL_ := hwl.2.1
  have hP40 := hwl.2.2
  have hlN : ∀ k, k < kn.toInt.toNat → kt_lgl P_ w_ L_ (kt_S (kt_stepf P_ w_ L_ fr fk lt lh) A0_ mv_ k) (mv_ k) := fun k hk => (hlog k (by omega)).1
  have hSr := kt_S_r (N := kn.toInt.toNat) hP40 hw_ hL_ hA0 hlN
  have hSo := kt_S_out (P := P_) (w := w_) (L := L_) (fr := fr) (fk := fk) (A0 := A0_) (mv := mv_) (mkt := lt) (mhd := lh) hA0o
  have hfS : ∀ q, q < P_ → ff q = (kt_S (kt_stepf P_ w_ L_ fr fk lt lh) A0_ mv_ dn.toInt.toNat) q := fun q hq => by rw [← hcut, kt_cut_in hq]
  have hp1n := kt_nIof (x := p1) hp1.1
  refine lv_aload_n hx hb dX3_hasSeen_0 rfl (lv_at hl 1 rfl) ?_
  refine va_getN (D := D) (ci := 8) (C := RX8) (T := TX8) (N := 3) hx hb hts iw_X3_hasSeen_X8 hown hK hP 5 rfl rfl 0 (by decide) (va_Nw.use (w := .fieldLinkNest RX3 69 "KingTable$Stand" "fields" "[I" "KingTable") rfl (hN _ (by decide +kernel))) (fun _ h9 => h9) rfl dX3_hasSeen_1 ?_
  refine lv_iconst (v := 0) hx hb dX3_hasSeen_4 (by decide) ?_
  refine lv_aload_n hx hb dX3_hasSeen_5 rfl (lv_at hl 0 rfl) ?_
  refine va_get (D := D) (ci := 3) (C := RX3) (T := TX3) (N := 9) hx hb hts iw_X3_hasSeen_X3 hown hK hP 0 rfl rfl 6 (by decide) (hts (.fieldLink RX3 30 "KingTable$Log" "then" "[I") (by decide +kernel)) (fun _ h9 => h9) rfl dX3_hasSeen_6 ?_
  refine lv_iconst (v := 0) hx hb dX3_hasSeen_9 (by decide) ?_
  refine lv_bipush (v := 40) hx hb dX3_hasSeen_10 (by decide) ?_
  refine va_copyi hx hb (by rw [hml]; exact hl.1.symm) hown (hts (.methodLink RX3 72 arraycopyName) (by decide +kernel)) (hts (.native arraycopyName) (by decide +kernel)) (hts (.static arraycopyName) (by decide +kernel)) (hts (.initialized "java/lang/System") (by decide +kernel)) hK hP hD hS 6 4 0 0 rfl rfl rfl rfl rfl (by decide) (by decide) (by decide) (by decide) (by decide) (fun _ _ => rfl) (Nat.le_of_ble_eq_true rfl) (Nat.le_of_ble_eq_true rfl) dX3_hasSeen_12 (fun H locs hP hD hS => ?_)
  have hP : va_P D vwCl [(lo, .inr (3, [.ref l0, .ref l1, .ref l2, .ref l3, .ref l4, .ref l5, .ref l6, .int dn, .int kn])), (l0, .inl (cI, 512, .inl m0)), (l1, .inl (cI, 512, .inl m1)), (l3, .inl (cI, 512, .inl m3)), (l6, .inl (cI, 40, .inl (va_cpy ff m6 (0 : Int32).toNatClampNeg (0 : Int32).toNatClampNeg (40 : Int32).toNatClampNeg))), (nw, .inr (8, [.ref sf, .ref sh, .int tu])), (sf, .inl (cI, 40, .inl ff))] H := hP
  have hD : va_D A [(lo, .inr (3, [.ref l0, .ref l1, .ref l2, .ref l3, .ref l4, .ref l5, .ref l6, .int dn, .int kn])), (l0, .inl (cI, 512, .inl m0)), (l1, .inl (cI, 512, .inl m1)), (l3, .inl (cI, 512, .inl m3)), (l6, .inl (cI, 40, .inl (va_cpy ff m6 (0 : Int32).toNatClampNeg (0 : Int32).toNatClampNeg (40 : Int32).toNatClampNeg))), (nw, .inr (8, [.ref sf, .ref sh, .int tu])), (sf, .inl (cI, 40, .inl ff))] := hD
  have hm6 := hff.cpy (g := m6)
  have hcp : ∀ q, q < 40 → va_cpy ff m6 (0 : Int32).toNatClampNeg (0 : Int32).toNatClampNeg (40 : Int32).toNatClampNeg q = ff q := fun q hq => kt_cpy_at hq
  refine lv_iconst (v := 1) hx hb dX3_hasSeen_15 (by decide) ?_
  refine lv_istore (lv' := [(4, .int 1), (0, .ref lo), (1, .ref nw), (2, .int p1), (3, .int p2)]) hx hb dX3_hasSeen_16 hl (by decide) rfl (fun ls hl => ?_)
  refine lv_aload_n hx hb dX3_hasSeen_18 rfl (lv_at hl 1 rfl) ?_
  refine va_get (D := D) (ci := 3) (C := RX3) (T := TX3) (N := 9) hx hb hts iw_X3_hasSeen_X3 hown hK hP 0 rfl rfl 7 (by decide) (hts (.fieldLink RX3 33 "KingTable$Log" "done" "I") (by decide +kernel)) (fun _ h9 => h9) rfl dX3_hasSeen_19 ?_
  refine lv_iconst (v := 1) hx hb dX3_hasSeen_22 (by decide) ?_
  refine lv_isub hx hb dX3_hasSeen_23 ?_
  refine lv_topi (fun t_23 et_23 => ?_)
  first | have hk_23 := kt_subx et_23 (by first | omega | (simp only [kt_c0, kt_c1, kt_c2, kt_c3, kt_c4, kt_c8, kt_c9, kt_cm1, kt_c81, kt_c40, kt_c7, kt_c5, kt_c6, kt_c512, kt_c10, kt_c10000]; omega)) (by first | omega | (simp only [kt_c0, kt_c1, kt_c2, kt_c3, kt_c4, kt_c8, kt_c9, kt_cm1, kt_c81, kt_c40, kt_c7, kt_c5, kt_c6, kt_c512, kt_c10, kt_c10000]; omega)) | obtain ⟨k_23, hk_23, hm_23, hM_23⟩ := kt_subk et_23
  try simp only [kt_c0, kt_c1, kt_c2, kt_c3, kt_c4, kt_c8, kt_c9, kt_cm1, kt_c81, kt_c40, kt_c7, kt_c5, kt_c6, kt_c512, kt_c10, kt_c10000] at hk_23
  refine lv_istore (lv' := [(5, .int t_23), (4, .int 1), (0, .ref lo), (1, .ref nw), (2, .int p1), (3, .int p2)]) hx hb dX3_hasSeen_24 hl (by decide) rfl (fun ls hl => ?_)
  refine kt_loop (σ := Int32 × Int32 × (Nat → Int32)) 26 9 (fun u => [(lo, .inr (3, [.ref l0, .ref l1, .ref l2, .ref l3, .ref l4, .ref l5, .ref l6, .int dn, .int kn])), (l0, .inl (cI, 512, .inl m0)), (l1, .inl (cI, 512, .inl m1)), (l3, .inl (cI, 512, .inl m3)), (l6, .inl (cI, 40, .inl u.2.2)), (nw, .inr (8, [.ref sf, .ref sh, .int tu])), (sf, .inl (cI, 40, .inl ff))]) (fun u => [(5, .int u.1), (4, .int u.2.1), (0, .ref lo), (1, .ref nw), (2, .int p1), (3, .int p2)]) (fun n u => (-1 ≤ u.1.toInt ∧ u.1.toInt ≤ dn.toInt - 1 ∧ u.1.toInt + 1 < n) ∧ kt_r u.2.2 40 (-1) 80 ∧ (∀ q, q < P_ → u.2.2 q = (kt_S (kt_stepf P_ w_ L_ fr fk lt lh) A0_ mv_ (u.1.toInt + 1).toNat) q) ∧ (∀ q, P_ ≤ q → q < 40 → u.2.2 q = -1) ∧ (u.2.1.toInt = (kt_df u.2.2 (upd ff p1.toNatClampNeg p2) 40 : Int)) ∧ ∀ k : Nat, u.1.toInt < (k : Int) → (k : Int) < dn.toInt → ¬ ((kt_S (kt_stepf P_ w_ L_ fr fk lt lh) A0_ mv_ k) = upd (kt_S (kt_stepf P_ w_ L_ fr fk lt lh) A0_ mv_ dn.toInt.toNat) p1.toInt.toNat p2 ∧ (dn.toInt.toNat - k) % 2 = 1)) (fun u h => by omega) (fun n_26 ih_26 u hI H locs hP hD hS ls hl => ?_) (514) (t_23, (1 : Int32), (va_cpy ff m6 (0 : Int32).toNatClampNeg (0 : Int32).toNatClampNeg (40 : Int32).toNatClampNeg)) (by show (-1 ≤ t_23.toInt ∧ t_23.toInt ≤ dn.toInt - 1 ∧ t_23.toInt + 1 < 514) ∧ kt_r (va_cpy ff m6 (0 : Int32).toNatClampNeg (0 : Int32).toNatClampNeg (40 : Int32).toNatClampNeg) 40 (-1) 80 ∧ (∀ q, q < P_ → (va_cpy ff m6 (0 : Int32).toNatClampNeg (0 : Int32).toNatClampNeg (40 : Int32).toNatClampNeg) q = (kt_S (kt_stepf P_ w_ L_ fr fk lt lh) A0_ mv_ (t_23.toInt + 1).toNat) q) ∧ (∀ q, P_ ≤ q → q < 40 → (va_cpy ff m6 (0 : Int32).toNatClampNeg (0 : Int32).toNatClampNeg (40 : Int32).toNatClampNeg) q = -1) ∧ ((1 : Int32).toInt = (kt_df (va_cpy ff m6 (0 : Int32).toNatClampNeg (0 : Int32).toNatClampNeg (40 : Int32).toNatClampNeg) (upd ff p1.toNatClampNeg p2) 40 : Int)) ∧ ∀ k : Nat, t_23.toInt < (k : Int) → (k : Int) < dn.toInt → ¬ ((kt_S (kt_stepf P_ w_ L_ fr fk lt lh) A0_ mv_ k) = upd (kt_S (kt_stepf P_ w_ L_ fr fk lt lh) A0_ mv_ dn.toInt.toNat) p1.toInt.toNat p2 ∧ (dn.toInt.toNat - k) % 2 = 1); exact ⟨by omega, hm6, fun q hq => by rw [hcp q (by omega), show (t_23.toInt + 1).toNat = dn.toInt.toNat by omega]; exact hfS q hq, fun q h1 h2 => by rw [hcp q h2]; exact hst_.2.2.2 q h1 h2, by rw [kt_df_cong (T' := ff) hcp, kt_df_one hne (by show p1.toInt.toNat < 40; omega)]; decide, fun k h1 h2 => by omega⟩) hP hD hS (lv_sub hl [0, 1, 2, 3, 4, 5] rfl)
  obtain ⟨i, d, g⟩ := u
  have hP : va_P D vwCl [(lo, .inr (3, [.ref l0, .ref l1, .ref l2, .ref l3, .ref l4, .ref l5, .ref l6, .int dn, .int kn])), (l0, .inl (cI, 512, .inl m0)), (l1, .inl (cI, 512, .inl m1)), (l3, .inl (cI, 512, .inl m3)), (l6, .inl (cI, 40, .inl g)), (nw, .inr (8, [.ref sf, .ref sh, .int tu])), (sf, .inl (cI, 40, .inl ff))] H := hP
  have hD : va_D A [(lo, .inr (3, [.ref l0, .ref l1, .ref l2, .ref l3, .ref l4, .ref l5, .ref l6, .int dn, .int kn])), (l0, .inl (cI, 512, .inl m0)), (l1, .inl (cI, 512, .inl m1)), (l3, .inl (cI, 512, .inl m3)), (l6, .inl (cI, 40, .inl g)), (nw, .inr (8, [.ref sf, .ref sh, .int tu])), (sf, .inl (cI, 40, .inl ff))] := hD
  have hl : lv_has ls 9 [(5, .int i), (4, .int d), (0, .ref lo), (1, .ref nw), (2, .int p1), (3, .int p2)] := hl
  have hI : (-1 ≤ i.toInt ∧ i.toInt ≤ dn.toInt - 1 ∧ i.toInt + 1 < (n_26 + 1)) ∧ kt_r g 40 (-1) 80 ∧ (∀ q, q < P_ → g q = (kt_S (kt_stepf P_ w_ L_ fr fk lt lh) A0_ mv_ (i.toInt + 1).toNat) q) ∧ (∀ q, P_ ≤ q → q < 40 → g q = -1) ∧ (d.toInt = (kt_df g (upd ff p1.toNatClampNeg p2) 40 : Int)) ∧ ∀ k : Nat, i.toInt < (k : Int) → (k : Int) < dn.toInt → ¬ ((kt_S (kt_stepf P_ w_ L_ fr fk lt lh) A0_ mv_ k) = upd (kt_S (kt_stepf P_ w_ L_ fr fk lt lh) A0_ mv_ dn.toInt.toNat) p1.toInt.toNat p2 ∧ (dn.toInt.toNat - k) % 2 = 1) := hI
  obtain ⟨hi0, hm6, hgS, hgo, hdd, hnf⟩ := hI
  have hdl := kt_df_le g (upd ff p1.toNatClampNeg p2) 40
  refine lv_iload hx hb dX3_hasSeen_26 (lv_at hl 0 rfl) ?_
  refine lv_if_lt (tgt := 164) hx hb dX3_hasSeen_28 (by decide) (fun c_28 => ?_) (fun c_28 => ?_)
  · have d_28 := c_28
    simp only [kt_lt, kt_le, kt_eq, kt_c0, kt_c1, kt_c2, kt_c3, kt_c4, kt_c8, kt_c9, kt_cm1, kt_c81, kt_c40, kt_c7, kt_c5, kt_c6, kt_c512, kt_c10, kt_c10000] at d_28
    refine lv_iconst (v := 0) hx hb dX3_hasSeen_164 (by decide) ?_
    exact kt_rz g hx hb hr hlk hS dX3_hasSeen_165 hP hD (by show kt_B (0 : Int32) (∃ k : Nat, (k : Int) < dn.toInt ∧ (kt_S (kt_stepf P_ w_ L_ fr fk lt lh) A0_ mv_ k) = upd (kt_S (kt_stepf P_ w_ L_ fr fk lt lh) A0_ mv_ dn.toInt.toNat) p1.toInt.toNat p2 ∧ (dn.toInt.toNat - k) % 2 = 1) ∧ kt_r g 40 (-1) 80; first
         | exact ⟨Or.inl ⟨rfl, i.toInt.toNat, by omega, hsi.mp (by have h5 := congrArg Int32.toInt c_148; rw [kt_c0] at h5; omega), hv10.t c_153⟩, hm6⟩
         | exact ⟨Or.inr ⟨rfl, fun ⟨k, h1, h2, h3⟩ => if e : i.toInt < (k : Int) then hnf k e h1 ⟨h2, h3⟩ else by exfalso; omega⟩, hm6⟩
         | exact ⟨Or.inr ⟨rfl, fun ⟨k, h1, h2, h3⟩ => if e : i.toInt < (k : Int) then hnf k e h1 ⟨h2, h3⟩ else kt_loud (N := kn.toInt.toNat) (i := i.toInt.toNat) (d := dn.toInt.toNat) (p := p1.toInt.toNat) (x := p2) hP40 hw_ hL_ hA0 hlN (by omega) (by omega) (hlog i.toInt.toNat (by omega)).2 (by rw [← e37]; intro h; exact c_38 ((kt_eq _ _).mpr (h.trans kt_c0.symm))) (by rw [← hfS _ (by omega)]; exact hxo) k (by omega) h2⟩, hm6⟩) rfl
  · have d_28 := c_28
    simp only [kt_lt, kt_le, kt_eq, kt_c0, kt_c1, kt_c2, kt_c3, kt_c4, kt_c8, kt_c9, kt_cm1, kt_c81, kt_c40, kt_c7, kt_c5, kt_c6, kt_c512, kt_c10, kt_c10000] at d_28
    refine lv_aload_n hx hb dX3_hasSeen_31 rfl (lv_at hl 2 rfl) ?_
    refine va_get (D := D) (ci := 3) (C := RX3) (T := TX3) (N := 9) hx hb hts iw_X3_hasSeen_X3 hown hK hP 0 rfl rfl 3 (by decide) (hts (.fieldLink RX3 21 "KingTable$Log" "takings" "[I") (by decide +kernel)) (fun _ h9 => h9) rfl dX3_hasSeen_32 ?_
    refine lv_iload hx hb dX3_hasSeen_35 (lv_at hl 0 rfl) ?_
    have hi_1 : vp_in i 512 := by exact kt_in (by omega) (by omega)
    refine va_iald hx hb hK hP 3 0 rfl rfl hi_1 dX3_hasSeen_37 ?_
    refine lv_topi (fun a_37 ea_37 => ?_)
    have ra_37 := hm3.get hi_1
    rw [← ea_37] at ra_37
    have e37 : a_37 = m3 i.toInt.toNat := ea_37
    refine lv_if_ne (tgt := 164) hx hb dX3_hasSeen_38 (by decide) (fun c_38 => ?_) (fun c_38 => ?_)
    · have d_38 := c_38
      simp only [kt_lt, kt_le, kt_eq, kt_c0, kt_c1, kt_c2, kt_c3, kt_c4, kt_c8, kt_c9, kt_cm1, kt_c81, kt_c40, kt_c7, kt_c5, kt_c6, kt_c512, kt_c10, kt_c10000] at d_38
      refine lv_iconst (v := 0) hx hb dX3_hasSeen_164 (by decide) ?_
      exact kt_rz g hx hb hr hlk hS dX3_hasSeen_165 hP hD (by show kt_B (0 : Int32) (∃ k : Nat, (k : Int) < dn.toInt ∧ (kt_S (kt_stepf P_ w_ L_ fr fk lt lh) A0_ mv_ k) = upd (kt_S (kt_stepf P_ w_ L_ fr fk lt lh) A0_ mv_ dn.toInt.toNat) p1.toInt.toNat p2 ∧ (dn.toInt.toNat - k) % 2 = 1) ∧ kt_r g 40 (-1) 80; first
           | exact ⟨Or.inl ⟨rfl, i.toInt.toNat, by omega, hsi.mp (by have h5 := congrArg Int32.toInt c_148; rw [kt_c0] at h5; omega), hv10.t c_153⟩, hm6⟩
           | exact ⟨Or.inr ⟨rfl, fun ⟨k, h1, h2, h3⟩ => if e : i.toInt < (k : Int) then hnf k e h1 ⟨h2, h3⟩ else by exfalso; omega⟩, hm6⟩
           | exact ⟨Or.inr ⟨rfl, fun ⟨k, h1, h2, h3⟩ => if e : i.toInt < (k : Int) then hnf k e h1 ⟨h2, h3⟩ else kt_loud (N := kn.toInt.toNat) (i := i.toInt.toNat) (d := dn.toInt.toNat) (p := p1.toInt.toNat) (x := p2) hP40 hw_ hL_ hA0 hlN (by omega) (by omega) (hlog i.toInt.toNat (by omega)).2 (by rw [← e37]; intro h; exact c_38 ((kt_eq _ _).mpr (h.trans kt_c0.symm))) (by rw [← hfS _ (by omega)]; exact hxo) k (by omega) h2⟩, hm6⟩) rfl
    · have d_38 := c_38
      simp only [kt_lt, kt_le, kt_eq, kt_c0, kt_c1, kt_c2, kt_c3, kt_c4, kt_c8, kt_c9, kt_cm1, kt_c81, kt_c40, kt_c7, kt_c5, kt_c6, kt_c512, kt_c10, kt_c10000] at d_38
      refine lv_aload_n hx hb dX3_hasSeen_41 rfl (lv_at hl 2 rfl) ?_
      refine va_get (D := D) (ci := 3) (C := RX3) (T := TX3) (N := 9) hx hb hts iw_X3_hasSeen_X3 hown hK hP 0 rfl rfl 0 (by decide) (hts (.fieldLink RX3 9 "KingTable$Log" "movers" "[I") (by decide +kernel)) (fun _ h9 => h9) rfl dX3_hasSeen_42 ?_
      refine lv_iload hx hb dX3_hasSeen_45 (lv_at hl 0 rfl) ?_
      have hi_2 : vp_in i 512 := by exact kt_in (by omega) (by omega)
      refine va_iald hx hb hK hP 1 0 rfl rfl hi_2 dX3_hasSeen_47 ?_
      refine lv_topi (fun a_47 ea_47 => ?_)
      have ra_47 := hm0.get hi_2
      rw [← ea_47] at ra_47
      have hli := hlog i.toInt.toNat (by omega)
      have hLK := hli.2
      have e47 : a_47 = nI ((mv_ i.toInt.toNat).toInt / 32).toNat := ea_47.trans hLK.1
      have hqP : ((mv_ i.toInt.toNat).toInt / 32).toNat < P_ := by have := hli.1.1; omega
      have c47 : a_47.toNatClampNeg = ((mv_ i.toInt.toNat).toInt / 32).toNat := by rw [e47, nI_clamp (by omega)]
      have i47 : a_47.toInt = ((((mv_ i.toInt.toNat).toInt / 32).toNat : Nat) : Int) := by rw [e47, kt_nI (by omega)]
      refine lv_istore (lv' := [(6, .int a_47), (5, .int i), (4, .int d), (0, .ref lo), (1, .ref nw), (2, .int p1), (3, .int p2)]) hx hb dX3_hasSeen_48 hl (by decide) rfl (fun ls hl => ?_)
      refine lv_iload hx hb dX3_hasSeen_50 (lv_at hl 0 rfl) ?_
      refine lv_iload_n hx hb dX3_hasSeen_52 rfl (lv_at hl 5 rfl) ?_
      refine kt_join (σ := Int32) 66 9 (fun u => [(lo, .inr (3, [.ref l0, .ref l1, .ref l2, .ref l3, .ref l4, .ref l5, .ref l6, .int dn, .int kn])), (l0, .inl (cI, 512, .inl m0)), (l1, .inl (cI, 512, .inl m1)), (l3, .inl (cI, 512, .inl m3)), (l6, .inl (cI, 40, .inl g)), (nw, .inr (8, [.ref sf, .ref sh, .int tu])), (sf, .inl (cI, 40, .inl ff))]) (fun u => [(6, .int a_47), (5, .int i), (4, .int d), (0, .ref lo), (1, .ref nw), (2, .int p1), (3, .int p2)]) (fun u => [.int u]) (fun u => u = (upd ff p1.toNatClampNeg p2) a_47.toNatClampNeg) (D := D) (A := A) (H0 := s.heap) (fun u hI H locs hP hD hS ls hl => ?_) (fun j_66 => ?_)
      · obtain ⟨v7, rfl⟩ : ∃ z, z = u := ⟨_, rfl⟩
        have hP : va_P D vwCl [(lo, .inr (3, [.ref l0, .ref l1, .ref l2, .ref l3, .ref l4, .ref l5, .ref l6, .int dn, .int kn])), (l0, .inl (cI, 512, .inl m0)), (l1, .inl (cI, 512, .inl m1)), (l3, .inl (cI, 512, .inl m3)), (l6, .inl (cI, 40, .inl g)), (nw, .inr (8, [.ref sf, .ref sh, .int tu])), (sf, .inl (cI, 40, .inl ff))] H := hP
        have hD : va_D A [(lo, .inr (3, [.ref l0, .ref l1, .ref l2, .ref l3, .ref l4, .ref l5, .ref l6, .int dn, .int kn])), (l0, .inl (cI, 512, .inl m0)), (l1, .inl (cI, 512, .inl m1)), (l3, .inl (cI, 512, .inl m3)), (l6, .inl (cI, 40, .inl g)), (nw, .inr (8, [.ref sf, .ref sh, .int tu])), (sf, .inl (cI, 40, .inl ff))] := hD
        have hl : lv_has ls 9 [(6, .int a_47), (5, .int i), (4, .int d), (0, .ref lo), (1, .ref nw), (2, .int p1), (3, .int p2)] := hl
        have hI : v7 = (upd ff p1.toNatClampNeg p2) a_47.toNatClampNeg := hI
        have hv7 := hI
        refine lv_istore (lv' := [(7, .int v7), (6, .int a_47), (5, .int i), (4, .int d), (0, .ref lo), (1, .ref nw), (2, .int p1), (3, .int p2)]) hx hb dX3_hasSeen_66 hl (by decide) rfl (fun ls hl => ?_)
        refine lv_iload hx hb dX3_hasSeen_68 (lv_at hl 3 rfl) ?_
        refine lv_aload_n hx hb dX3_hasSeen_70 rfl (lv_at hl 4 rfl) ?_
        refine va_get (D := D) (ci := 3) (C := RX3) (T := TX3) (N := 9) hx hb hts iw_X3_hasSeen_X3 hown hK hP 0 rfl rfl 6 (by decide) (hts (.fieldLink RX3 30 "KingTable$Log" "then" "[I") (by decide +kernel)) (fun _ h9 => h9) rfl dX3_hasSeen_71 ?_
        refine lv_iload hx hb dX3_hasSeen_74 (lv_at hl 1 rfl) ?_
        have hi_3 : vp_in a_47 40 := by exact kt_in (by omega) (by omega)
        refine va_iald hx hb hK hP 4 0 rfl rfl hi_3 dX3_hasSeen_76 ?_
        refine lv_topi (fun a_76 ea_76 => ?_)
        have ra_76 := hm6.get hi_3
        rw [← ea_76] at ra_76
        have e76 : a_76 = g a_47.toNatClampNeg := ea_76
        refine lv_iload hx hb dX3_hasSeen_77 (lv_at hl 0 rfl) ?_
        refine kt_join (σ := Int32) 87 9 (fun u => [(lo, .inr (3, [.ref l0, .ref l1, .ref l2, .ref l3, .ref l4, .ref l5, .ref l6, .int dn, .int kn])), (l0, .inl (cI, 512, .inl m0)), (l1, .inl (cI, 512, .inl m1)), (l3, .inl (cI, 512, .inl m3)), (l6, .inl (cI, 40, .inl g)), (nw, .inr (8, [.ref sf, .ref sh, .int tu])), (sf, .inl (cI, 40, .inl ff))]) (fun u => [(7, .int v7), (6, .int a_47), (5, .int i), (4, .int d), (0, .ref lo), (1, .ref nw), (2, .int p1), (3, .int p2)]) (fun u => [.int u, .int d]) (fun u => u.toInt = (if g a_47.toNatClampNeg = (upd ff p1.toNatClampNeg p2) a_47.toNatClampNeg then 1 else 0) ∧ 0 ≤ u.toInt ∧ u.toInt ≤ 1) (D := D) (A := A) (H0 := s.heap) (fun u hI H locs hP hD hS ls hl => ?_) (fun j_87 => ?_)
        · obtain ⟨v8, rfl⟩ : ∃ z, z = u := ⟨_, rfl⟩
          have hP : va_P D vwCl [(lo, .inr (3, [.ref l0, .ref l1, .ref l2, .ref l3, .ref l4, .ref l5, .ref l6, .int dn, .int kn])), (l0, .inl (cI, 512, .inl m0)), (l1, .inl (cI, 512, .inl m1)), (l3, .inl (cI, 512, .inl m3)), (l6, .inl (cI, 40, .inl g)), (nw, .inr (8, [.ref sf, .ref sh, .int tu])), (sf, .inl (cI, 40, .inl ff))] H := hP
          have hD : va_D A [(lo, .inr (3, [.ref l0, .ref l1, .ref l2, .ref l3, .ref l4, .ref l5, .ref l6, .int dn, .int kn])), (l0, .inl (cI, 512, .inl m0)), (l1, .inl (cI, 512, .inl m1)), (l3, .inl (cI, 512, .inl m3)), (l6, .inl (cI, 40, .inl g)), (nw, .inr (8, [.ref sf, .ref sh, .int tu])), (sf, .inl (cI, 40, .inl ff))] := hD
          have hl : lv_has ls 9 [(7, .int v7), (6, .int a_47), (5, .int i), (4, .int d), (0, .ref lo), (1, .ref nw), (2, .int p1), (3, .int p2)] := hl
          have hI : v8.toInt = (if g a_47.toNatClampNeg = (upd ff p1.toNatClampNeg p2) a_47.toNatClampNeg then 1 else 0) ∧ 0 ≤ v8.toInt ∧ v8.toInt ≤ 1 := hI
          obtain ⟨hv8, hv8r⟩ := hI
          refine lv_iadd hx hb dX3_hasSeen_87 ?_
          refine lv_topi (fun t_87 et_87 => ?_)
          first | have hk_87 := kt_addx et_87 (by first | omega | (simp only [kt_c0, kt_c1, kt_c2, kt_c3, kt_c4, kt_c8, kt_c9, kt_cm1, kt_c81, kt_c40, kt_c7, kt_c5, kt_c6, kt_c512, kt_c10, kt_c10000]; omega)) (by first | omega | (simp only [kt_c0, kt_c1, kt_c2, kt_c3, kt_c4, kt_c8, kt_c9, kt_cm1, kt_c81, kt_c40, kt_c7, kt_c5, kt_c6, kt_c512, kt_c10, kt_c10000]; omega)) | obtain ⟨k_87, hk_87, hm_87, hM_87⟩ := kt_addk et_87
          refine lv_istore (lv' := [(4, .int t_87), (7, .int v7), (6, .int a_47), (5, .int i), (0, .ref lo), (1, .ref nw), (2, .int p1), (3, .int p2)]) hx hb dX3_hasSeen_88 hl (by decide) rfl (fun ls hl => ?_)
          refine lv_aload_n hx hb dX3_hasSeen_90 rfl (lv_at hl 4 rfl) ?_
          refine va_get (D := D) (ci := 3) (C := RX3) (T := TX3) (N := 9) hx hb hts iw_X3_hasSeen_X3 hown hK hP 0 rfl rfl 6 (by decide) (hts (.fieldLink RX3 30 "KingTable$Log" "then" "[I") (by decide +kernel)) (fun _ h9 => h9) rfl dX3_hasSeen_91 ?_
          refine lv_iload hx hb dX3_hasSeen_94 (lv_at hl 2 rfl) ?_
          refine lv_aload_n hx hb dX3_hasSeen_96 rfl (lv_at hl 4 rfl) ?_
          refine va_get (D := D) (ci := 3) (C := RX3) (T := TX3) (N := 9) hx hb hts iw_X3_hasSeen_X3 hown hK hP 0 rfl rfl 1 (by decide) (hts (.fieldLink RX3 15 "KingTable$Log" "froms" "[I") (by decide +kernel)) (fun _ h9 => h9) rfl dX3_hasSeen_97 ?_
          refine lv_iload hx hb dX3_hasSeen_100 (lv_at hl 3 rfl) ?_
          have hi_4 : vp_in i 512 := by exact kt_in (by omega) (by omega)
          refine va_iald hx hb hK hP 2 0 rfl rfl hi_4 dX3_hasSeen_102 ?_
          refine lv_topi (fun a_102 ea_102 => ?_)
          have ra_102 := hm1.get hi_4
          rw [← ea_102] at ra_102
          have e102 : a_102 = (kt_S (kt_stepf P_ w_ L_ fr fk lt lh) A0_ mv_ i.toInt.toNat) a_47.toNatClampNeg := by rw [c47]; exact ea_102.trans hLK.2.1
          have hi_5 : vp_in a_47 40 := by exact kt_in (by omega) (by omega)
          refine va_iast hx hb hK hP hD hS 4 0 rfl rfl hi_5 dX3_hasSeen_103 (fun H locs hP hD hS => ?_)
          have hm6 : kt_r (upd g a_47.toNatClampNeg a_102) 40 (-1) 80 := hm6.upd (by omega) (by omega)
          have hP : va_P D vwCl [(lo, .inr (3, [.ref l0, .ref l1, .ref l2, .ref l3, .ref l4, .ref l5, .ref l6, .int dn, .int kn])), (l0, .inl (cI, 512, .inl m0)), (l1, .inl (cI, 512, .inl m1)), (l3, .inl (cI, 512, .inl m3)), (l6, .inl (cI, 40, .inl (upd g a_47.toNatClampNeg a_102))), (nw, .inr (8, [.ref sf, .ref sh, .int tu])), (sf, .inl (cI, 40, .inl ff))] H := hP
          have hD : va_D A [(lo, .inr (3, [.ref l0, .ref l1, .ref l2, .ref l3, .ref l4, .ref l5, .ref l6, .int dn, .int kn])), (l0, .inl (cI, 512, .inl m0)), (l1, .inl (cI, 512, .inl m1)), (l3, .inl (cI, 512, .inl m3)), (l6, .inl (cI, 40, .inl (upd g a_47.toNatClampNeg a_102))), (nw, .inr (8, [.ref sf, .ref sh, .int tu])), (sf, .inl (cI, 40, .inl ff))] := hD
          refine lv_iload hx hb dX3_hasSeen_104 (lv_at hl 0 rfl) ?_
          refine lv_aload_n hx hb dX3_hasSeen_106 rfl (lv_at hl 4 rfl) ?_
          refine va_get (D := D) (ci := 3) (C := RX3) (T := TX3) (N := 9) hx hb hts iw_X3_hasSeen_X3 hown hK hP 0 rfl rfl 6 (by decide) (hts (.fieldLink RX3 30 "KingTable$Log" "then" "[I") (by decide +kernel)) (fun _ h9 => h9) rfl dX3_hasSeen_107 ?_
          refine lv_iload hx hb dX3_hasSeen_110 (lv_at hl 2 rfl) ?_
          have hi_6 : vp_in a_47 40 := by exact kt_in (by omega) (by omega)
          refine va_iald hx hb hK hP 4 0 rfl rfl hi_6 dX3_hasSeen_112 ?_
          refine lv_topi (fun a_112 ea_112 => ?_)
          have ra_112 := hm6.get hi_6
          rw [← ea_112] at ra_112
          rw [pk_us] at ea_112
          refine lv_iload hx hb dX3_hasSeen_113 (lv_at hl 1 rfl) ?_
          refine kt_join (σ := Int32) 123 9 (fun u => [(lo, .inr (3, [.ref l0, .ref l1, .ref l2, .ref l3, .ref l4, .ref l5, .ref l6, .int dn, .int kn])), (l0, .inl (cI, 512, .inl m0)), (l1, .inl (cI, 512, .inl m1)), (l3, .inl (cI, 512, .inl m3)), (l6, .inl (cI, 40, .inl (upd g a_47.toNatClampNeg a_102))), (nw, .inr (8, [.ref sf, .ref sh, .int tu])), (sf, .inl (cI, 40, .inl ff))]) (fun u => [(4, .int t_87), (7, .int v7), (6, .int a_47), (5, .int i), (0, .ref lo), (1, .ref nw), (2, .int p1), (3, .int p2)]) (fun u => [.int u, .int t_87]) (fun u => u.toInt = (if a_102 = (upd ff p1.toNatClampNeg p2) a_47.toNatClampNeg then 1 else 0) ∧ 0 ≤ u.toInt ∧ u.toInt ≤ 1) (D := D) (A := A) (H0 := s.heap) (fun u hI H locs hP hD hS ls hl => ?_) (fun j_123 => ?_)
          · obtain ⟨v9, rfl⟩ : ∃ z, z = u := ⟨_, rfl⟩
            have hP : va_P D vwCl [(lo, .inr (3, [.ref l0, .ref l1, .ref l2, .ref l3, .ref l4, .ref l5, .ref l6, .int dn, .int kn])), (l0, .inl (cI, 512, .inl m0)), (l1, .inl (cI, 512, .inl m1)), (l3, .inl (cI, 512, .inl m3)), (l6, .inl (cI, 40, .inl (upd g a_47.toNatClampNeg a_102))), (nw, .inr (8, [.ref sf, .ref sh, .int tu])), (sf, .inl (cI, 40, .inl ff))] H := hP
            have hD : va_D A [(lo, .inr (3, [.ref l0, .ref l1, .ref l2, .ref l3, .ref l4, .ref l5, .ref l6, .int dn, .int kn])), (l0, .inl (cI, 512, .inl m0)), (l1, .inl (cI, 512, .inl m1)), (l3, .inl (cI, 512, .inl m3)), (l6, .inl (cI, 40, .inl (upd g a_47.toNatClampNeg a_102))), (nw, .inr (8, [.ref sf, .ref sh, .int tu])), (sf, .inl (cI, 40, .inl ff))] := hD
            have hl : lv_has ls 9 [(4, .int t_87), (7, .int v7), (6, .int a_47), (5, .int i), (0, .ref lo), (1, .ref nw), (2, .int p1), (3, .int p2)] := hl
            have hI : v9.toInt = (if a_102 = (upd ff p1.toNatClampNeg p2) a_47.toNatClampNeg then 1 else 0) ∧ 0 ≤ v9.toInt ∧ v9.toInt ≤ 1 := hI
            obtain ⟨hv9, hv9r⟩ := hI
            refine lv_isub hx hb dX3_hasSeen_123 ?_
            refine lv_topi (fun t_123 et_123 => ?_)
            first | have hk_123 := kt_subx et_123 (by first | omega | (simp only [kt_c0, kt_c1, kt_c2, kt_c3, kt_c4, kt_c8, kt_c9, kt_cm1, kt_c81, kt_c40, kt_c7, kt_c5, kt_c6, kt_c512, kt_c10, kt_c10000]; omega)) (by first | omega | (simp only [kt_c0, kt_c1, kt_c2, kt_c3, kt_c4, kt_c8, kt_c9, kt_cm1, kt_c81, kt_c40, kt_c7, kt_c5, kt_c6, kt_c512, kt_c10, kt_c10000]; omega)) | obtain ⟨k_123, hk_123, hm_123, hM_123⟩ := kt_subk et_123
            refine lv_istore (lv' := [(4, .int t_123), (7, .int v7), (6, .int a_47), (5, .int i), (0, .ref lo), (1, .ref nw), (2, .int p1), (3, .int p2)]) hx hb dX3_hasSeen_124 hl (by decide) rfl (fun ls hl => ?_)
            refine lv_aload_n hx hb dX3_hasSeen_126 rfl (lv_at hl 4 rfl) ?_
            refine va_get (D := D) (ci := 3) (C := RX3) (T := TX3) (N := 9) hx hb hts iw_X3_hasSeen_X3 hown hK hP 0 rfl rfl 7 (by decide) (hts (.fieldLink RX3 33 "KingTable$Log" "done" "I") (by decide +kernel)) (fun _ h9 => h9) rfl dX3_hasSeen_127 ?_
            refine lv_iload hx hb dX3_hasSeen_130 (lv_at hl 3 rfl) ?_
            refine lv_isub hx hb dX3_hasSeen_132 ?_
            refine lv_topi (fun t_132 et_132 => ?_)
            first | have hk_132 := kt_subx et_132 (by first | omega | (simp only [kt_c0, kt_c1, kt_c2, kt_c3, kt_c4, kt_c8, kt_c9, kt_cm1, kt_c81, kt_c40, kt_c7, kt_c5, kt_c6, kt_c512, kt_c10, kt_c10000]; omega)) (by first | omega | (simp only [kt_c0, kt_c1, kt_c2, kt_c3, kt_c4, kt_c8, kt_c9, kt_cm1, kt_c81, kt_c40, kt_c7, kt_c5, kt_c6, kt_c512, kt_c10, kt_c10000]; omega)) | obtain ⟨k_132, hk_132, hm_132, hM_132⟩ := kt_subk et_132
            refine lv_iconst (v := 1) hx hb dX3_hasSeen_133 (by decide) ?_
            refine lv_iand hx hb dX3_hasSeen_134 ?_
            refine lv_topi (fun t_134 et_134 => ?_)
            have ha_134 : 0 ≤ t_134.toInt ∧ t_134.toInt ≤ 1 := by rw [et_134]; exact kt_and1 _
            refine lv_iconst (v := 1) hx hb dX3_hasSeen_135 (by decide) ?_
            refine kt_join (σ := Int32) 144 9 (fun u => [(lo, .inr (3, [.ref l0, .ref l1, .ref l2, .ref l3, .ref l4, .ref l5, .ref l6, .int dn, .int kn])), (l0, .inl (cI, 512, .inl m0)), (l1, .inl (cI, 512, .inl m1)), (l3, .inl (cI, 512, .inl m3)), (l6, .inl (cI, 40, .inl (upd g a_47.toNatClampNeg a_102))), (nw, .inr (8, [.ref sf, .ref sh, .int tu])), (sf, .inl (cI, 40, .inl ff))]) (fun u => [(4, .int t_123), (7, .int v7), (6, .int a_47), (5, .int i), (0, .ref lo), (1, .ref nw), (2, .int p1), (3, .int p2)]) (fun u => [.int u]) (fun u => kt_B u ((dn.toInt.toNat - i.toInt.toNat) % 2 = 1)) (D := D) (A := A) (H0 := s.heap) (fun u hI H locs hP hD hS ls hl => ?_) (fun j_144 => ?_)
            · obtain ⟨v10, rfl⟩ : ∃ z, z = u := ⟨_, rfl⟩
              have hP : va_P D vwCl [(lo, .inr (3, [.ref l0, .ref l1, .ref l2, .ref l3, .ref l4, .ref l5, .ref l6, .int dn, .int kn])), (l0, .inl (cI, 512, .inl m0)), (l1, .inl (cI, 512, .inl m1)), (l3, .inl (cI, 512, .inl m3)), (l6, .inl (cI, 40, .inl (upd g a_47.toNatClampNeg a_102))), (nw, .inr (8, [.ref sf, .ref sh, .int tu])), (sf, .inl (cI, 40, .inl ff))] H := hP
              have hD : va_D A [(lo, .inr (3, [.ref l0, .ref l1, .ref l2, .ref l3, .ref l4, .ref l5, .ref l6, .int dn, .int kn])), (l0, .inl (cI, 512, .inl m0)), (l1, .inl (cI, 512, .inl m1)), (l3, .inl (cI, 512, .inl m3)), (l6, .inl (cI, 40, .inl (upd g a_47.toNatClampNeg a_102))), (nw, .inr (8, [.ref sf, .ref sh, .int tu])), (sf, .inl (cI, 40, .inl ff))] := hD
              have hl : lv_has ls 9 [(4, .int t_123), (7, .int v7), (6, .int a_47), (5, .int i), (0, .ref lo), (1, .ref nw), (2, .int p1), (3, .int p2)] := hl
              have hI : kt_B v10 ((dn.toInt.toNat - i.toInt.toNat) % 2 = 1) := hI
              have hv10 := hI
              refine lv_istore (lv' := [(8, .int v10), (4, .int t_123), (7, .int v7), (6, .int a_47), (5, .int i), (0, .ref lo), (1, .ref nw), (2, .int p1), (3, .int p2)]) hx hb dX3_hasSeen_144 hl (by decide) rfl (fun ls hl => ?_)
              have hdf := kt_df_upd (T := g) (D := (upd ff p1.toNatClampNeg p2)) (q := a_47.toNatClampNeg) (x := a_102) (n := 40) (by omega)
              have hd2 : t_123.toInt = (kt_df (upd g a_47.toNatClampNeg a_102) (upd ff p1.toNatClampNeg p2) 40 : Int) := by rw [hdf]; omega
              have hqt := kt_quiet (fr := fr) (fk := fk) (mkt := lt) (mhd := lh) hP40 hw_ hL_ (hSr i.toInt.toNat (by omega)) hli.1 hLK (by rw [← e37]; omega)
              have hg2 : ∀ q, q < P_ → upd g a_47.toNatClampNeg a_102 q = (kt_S (kt_stepf P_ w_ L_ fr fk lt lh) A0_ mv_ i.toInt.toNat) q := fun q hq => if e : q = a_47.toNatClampNeg then (by rw [e, pk_us]; exact e102) else (by rw [pk_un e, hgS q hq, show (i.toInt + 1).toNat = i.toInt.toNat + 1 by omega]; exact hqt q hq (by rw [← c47]; exact e))
              have hg3 : ∀ q, P_ ≤ q → q < 40 → upd g a_47.toNatClampNeg a_102 q = -1 := fun q h1 h2 => by rw [pk_un (by omega)]; exact hgo q h1 h2
              have hsi : kt_df (upd g a_47.toNatClampNeg a_102) (upd ff p1.toNatClampNeg p2) 40 = 0 ↔ (kt_S (kt_stepf P_ w_ L_ fr fk lt lh) A0_ mv_ i.toInt.toNat) = upd (kt_S (kt_stepf P_ w_ L_ fr fk lt lh) A0_ mv_ dn.toInt.toNat) p1.toInt.toNat p2 := kt_seen_iff (p := p1.toInt.toNat) (x := p2) hP40 (by omega) hg2 hg3 hfS hst_.2.2.2 (hSo i.toInt.toNat) (hSo dn.toInt.toNat)
              refine lv_iload hx hb dX3_hasSeen_146 (lv_at hl 1 rfl) ?_
              refine lv_if_ne (tgt := 158) hx hb dX3_hasSeen_148 (by decide) (fun c_148 => ?_) (fun c_148 => ?_)
              · have d_148 := c_148
                simp only [kt_lt, kt_le, kt_eq, kt_c0, kt_c1, kt_c2, kt_c3, kt_c4, kt_c8, kt_c9, kt_cm1, kt_c81, kt_c40, kt_c7, kt_c5, kt_c6, kt_c512, kt_c10, kt_c10000] at d_148
                obtain ⟨t_158, et_158⟩ : ∃ y : Int32, y = i + (-1) := ⟨_, rfl⟩
                obtain ⟨k_158, hk_158, hm_158, hM_158⟩ := kt_addk et_158
                try simp only [kt_c0, kt_c1, kt_c2, kt_c3, kt_c4, kt_c8, kt_c9, kt_cm1, kt_c81, kt_c40, kt_c7, kt_c5, kt_c6, kt_c512, kt_c10, kt_c10000] at hk_158
                refine lv_iinc (v := t_158) (lv' := [(5, .int t_158), (8, .int v10), (4, .int t_123), (7, .int v7), (6, .int a_47), (0, .ref lo), (1, .ref nw), (2, .int p1), (3, .int p2)]) hx hb dX3_hasSeen_158 hl (k := 4) rfl (by rw [et_158]; rfl) (by decide) rfl (fun ls hl => ?_)
                refine lv_goto (tgt := 26) hx hb dX3_hasSeen_161 (by decide) ?_
                exact ih_26 (t_158, t_123, (upd g a_47.toNatClampNeg a_102)) (by show (-1 ≤ t_158.toInt ∧ t_158.toInt ≤ dn.toInt - 1 ∧ t_158.toInt + 1 < n_26) ∧ kt_r (upd g a_47.toNatClampNeg a_102) 40 (-1) 80 ∧ (∀ q, q < P_ → (upd g a_47.toNatClampNeg a_102) q = (kt_S (kt_stepf P_ w_ L_ fr fk lt lh) A0_ mv_ (t_158.toInt + 1).toNat) q) ∧ (∀ q, P_ ≤ q → q < 40 → (upd g a_47.toNatClampNeg a_102) q = -1) ∧ (t_123.toInt = (kt_df (upd g a_47.toNatClampNeg a_102) (upd ff p1.toNatClampNeg p2) 40 : Int)) ∧ ∀ k : Nat, t_158.toInt < (k : Int) → (k : Int) < dn.toInt → ¬ ((kt_S (kt_stepf P_ w_ L_ fr fk lt lh) A0_ mv_ k) = upd (kt_S (kt_stepf P_ w_ L_ fr fk lt lh) A0_ mv_ dn.toInt.toNat) p1.toInt.toNat p2 ∧ (dn.toInt.toNat - k) % 2 = 1); first
                       | exact ⟨by omega, hm6, by rw [show (t_158.toInt + 1).toNat = i.toInt.toNat by omega]; exact hg2, hg3, hd2, fun k h1 h2 => if e : k = i.toInt.toNat then (by rw [e]; intro h; first | exact c_148 ((kt_eq _ _).mpr (by have h9 := hsi.mpr h.1; rw [kt_c0]; omega)) | exact (hv10.f c_153) h.2) else hnf k (by omega) h2⟩) H _ hP hD hS ls (lv_sub hl [0, 2, 5, 6, 7, 8] rfl)
              · have d_148 := c_148
                simp only [kt_lt, kt_le, kt_eq, kt_c0, kt_c1, kt_c2, kt_c3, kt_c4, kt_c8, kt_c9, kt_cm1, kt_c81, kt_c40, kt_c7, kt_c5, kt_c6, kt_c512, kt_c10, kt_c10000] at d_148
                refine lv_iload hx hb dX3_hasSeen_151 (lv_at hl 0 rfl) ?_
                refine lv_if_eq (tgt := 158) hx hb dX3_hasSeen_153 (by decide) (fun c_153 => ?_) (fun c_153 => ?_)
                · have d_153 := c_153
                  simp only [kt_lt, kt_le, kt_eq, kt_c0, kt_c1, kt_c2, kt_c3, kt_c4, kt_c8, kt_c9, kt_cm1, kt_c81, kt_c40, kt_c7, kt_c5, kt_c6, kt_c512, kt_c10, kt_c10000] at d_153
                  obtain ⟨t_158, et_158⟩ : ∃ y : Int32, y = i + (-1) := ⟨_, rfl⟩
                  obtain ⟨k_158, hk_158, hm_158, hM_158⟩ := kt_addk et_158
                  try simp only [kt_c0, kt_c1, kt_c2, kt_c3, kt_c4, kt_c8, kt_c9, kt_cm1, kt_c81, kt_c40, kt_c7, kt_c5, kt_c6, kt_c512, kt_c10, kt_c10000] at hk_158
                  refine lv_iinc (v := t_158) (lv' := [(5, .int t_158), (8, .int v10), (4, .int t_123), (7, .int v7), (6, .int a_47), (0, .ref lo), (1, .ref nw), (2, .int p1), (3, .int p2)]) hx hb dX3_hasSeen_158 hl (k := 4) rfl (by rw [et_158]; rfl) (by decide) rfl (fun ls hl => ?_)
                  refine lv_goto (tgt := 26) hx hb dX3_hasSeen_161 (by decide) ?_
                  exact ih_26 (t_158, t_123, (upd g a_47.toNatClampNeg a_102)) (by show (-1 ≤ t_158.toInt ∧ t_158.toInt ≤ dn.toInt - 1 ∧ t_158.toInt + 1 < n_26) ∧ kt_r (upd g a_47.toNatClampNeg a_102) 40 (-1) 80 ∧ (∀ q, q < P_ → (upd g a_47.toNatClampNeg a_102) q = (kt_S (kt_stepf P_ w_ L_ fr fk lt lh) A0_ mv_ (t_158.toInt + 1).toNat) q) ∧ (∀ q, P_ ≤ q → q < 40 → (upd g a_47.toNatClampNeg a_102) q = -1) ∧ (t_123.toInt = (kt_df (upd g a_47.toNatClampNeg a_102) (upd ff p1.toNatClampNeg p2) 40 : Int)) ∧ ∀ k : Nat, t_158.toInt < (k : Int) → (k : Int) < dn.toInt → ¬ ((kt_S (kt_stepf P_ w_ L_ fr fk lt lh) A0_ mv_ k) = upd (kt_S (kt_stepf P_ w_ L_ fr fk lt lh) A0_ mv_ dn.toInt.toNat) p1.toInt.toNat p2 ∧ (dn.toInt.toNat - k) % 2 = 1); first
                         | exact ⟨by omega, hm6, by rw [show (t_158.toInt + 1).toNat = i.toInt.toNat by omega]; exact hg2, hg3, hd2, fun k h1 h2 => if e : k = i.toInt.toNat then (by rw [e]; intro h; first | exact c_148 ((kt_eq _ _).mpr (by have h9 := hsi.mpr h.1; rw [kt_c0]; omega)) | exact (hv10.f c_153) h.2) else hnf k (by omega) h2⟩) H _ hP hD hS ls (lv_sub hl [0, 2, 5, 6, 7, 8] rfl)
                · have d_153 := c_153
                  simp only [kt_lt, kt_le, kt_eq, kt_c0, kt_c1, kt_c2, kt_c3, kt_c4, kt_c8, kt_c9, kt_cm1, kt_c81, kt_c40, kt_c7, kt_c5, kt_c6, kt_c512, kt_c10, kt_c10000] at d_153
                  refine lv_iconst (v := 1) hx hb dX3_hasSeen_156 (by decide) ?_
                  exact kt_rz (upd g a_47.toNatClampNeg a_102) hx hb hr hlk hS dX3_hasSeen_157 hP hD (by show kt_B (1 : Int32) (∃ k : Nat, (k : Int) < dn.toInt ∧ (kt_S (kt_stepf P_ w_ L_ fr fk lt lh) A0_ mv_ k) = upd (kt_S (kt_stepf P_ w_ L_ fr fk lt lh) A0_ mv_ dn.toInt.toNat) p1.toInt.toNat p2 ∧ (dn.toInt.toNat - k) % 2 = 1) ∧ kt_r (upd g a_47.toNatClampNeg a_102) 40 (-1) 80; first
                       | exact ⟨Or.inl ⟨rfl, i.toInt.toNat, by omega, hsi.mp (by have h5 := congrArg Int32.toInt c_148; rw [kt_c0] at h5; omega), hv10.t c_153⟩, hm6⟩
                       | exact ⟨Or.inr ⟨rfl, fun ⟨k, h1, h2, h3⟩ => if e : i.toInt < (k : Int) then hnf k e h1 ⟨h2, h3⟩ else by exfalso; omega⟩, hm6⟩
                       | exact ⟨Or.inr ⟨rfl, fun ⟨k, h1, h2, h3⟩ => if e : i.toInt < (k : Int) then hnf k e h1 ⟨h2, h3⟩ else kt_loud (N := kn.toInt.toNat) (i := i.toInt.toNat) (d := dn.toInt.toNat) (p := p1.toInt.toNat) (x := p2) hP40 hw_ hL_ hA0 hlN (by omega) (by omega) (hlog i.toInt.toNat (by omega)).2 (by rw [← e37]; intro h; exact c_38 ((kt_eq _ _).mpr (h.trans kt_c0.symm))) (by rw [← hfS _ (by omega)]; exact hxo) k (by omega) h2⟩, hm6⟩) rfl
            refine lv_icmp_ne (tgt := 143) hx hb dX3_hasSeen_136 (by decide) (fun c_136 => ?_) (fun c_136 => ?_)
            · have d_136 := c_136
              simp only [kt_lt, kt_le, kt_eq, kt_c0, kt_c1, kt_c2, kt_c3, kt_c4, kt_c8, kt_c9, kt_cm1, kt_c81, kt_c40, kt_c7, kt_c5, kt_c6, kt_c512, kt_c10, kt_c10000] at d_136
              refine lv_iconst (v := 0) hx hb dX3_hasSeen_143 (by decide) ?_
              exact j_144 (0 : Int32) (by show kt_B (0 : Int32) ((dn.toInt.toNat - i.toInt.toNat) % 2 = 1); (have h5 := kt_and1m (x := t_132) (by omega)); (rw [← et_134] at h5); first | exact Or.inl ⟨rfl, by have h6 := congrArg Int32.toInt c_136; rw [kt_c1] at h6; omega⟩ | exact Or.inr ⟨rfl, fun h => c_136 ((kt_eq _ _).mpr (by rw [kt_c1]; omega))⟩) H _ hP hD hS ls (lv_sub hl [0, 1, 2, 3, 4, 5, 6, 7] rfl)
            · have d_136 := c_136
              simp only [kt_lt, kt_le, kt_eq, kt_c0, kt_c1, kt_c2, kt_c3, kt_c4, kt_c8, kt_c9, kt_cm1, kt_c81, kt_c40, kt_c7, kt_c5, kt_c6, kt_c512, kt_c10, kt_c10000] at d_136
              refine lv_iconst (v := 1) hx hb dX3_hasSeen_139 (by decide) ?_
              refine lv_goto (tgt := 144) hx hb dX3_hasSeen_140 (by decide) ?_
              exact j_144 (1 : Int32) (by show kt_B (1 : Int32) ((dn.toInt.toNat - i.toInt.toNat) % 2 = 1); (have h5 := kt_and1m (x := t_132) (by omega)); (rw [← et_134] at h5); first | exact Or.inl ⟨rfl, by have h6 := congrArg Int32.toInt c_136; rw [kt_c1] at h6; omega⟩ | exact Or.inr ⟨rfl, fun h => c_136 ((kt_eq _ _).mpr (by rw [kt_c1]; omega))⟩) H _ hP hD hS ls (lv_sub hl [0, 1, 2, 3, 4, 5, 6, 7] rfl)
          refine lv_icmp_ne (tgt := 122) hx hb dX3_hasSeen_115 (by decide) (fun c_115 => ?_) (fun c_115 => ?_)
          · have d_115 := c_115
            simp only [kt_lt, kt_le, kt_eq, kt_c0, kt_c1, kt_c2, kt_c3, kt_c4, kt_c8, kt_c9, kt_cm1, kt_c81, kt_c40, kt_c7, kt_c5, kt_c6, kt_c512, kt_c10, kt_c10000] at d_115
            refine lv_iconst (v := 0) hx hb dX3_hasSeen_122 (by decide) ?_
            exact j_123 (0 : Int32) (by show (0 : Int32).toInt = (if a_102 = (upd ff p1.toNatClampNeg p2) a_47.toNatClampNeg then 1 else 0) ∧ 0 ≤ (0 : Int32).toInt ∧ (0 : Int32).toInt ≤ 1; first | exact ⟨by rw [if_pos (by rw [← ea_112, ← hv7]; exact c_115)]; decide, by decide⟩ | exact ⟨by rw [if_neg (by rw [← ea_112, ← hv7]; exact c_115)]; decide, by decide⟩) H _ hP hD hS ls (lv_sub hl [0, 1, 2, 3, 4, 5, 6, 7] rfl)
          · have d_115 := c_115
            simp only [kt_lt, kt_le, kt_eq, kt_c0, kt_c1, kt_c2, kt_c3, kt_c4, kt_c8, kt_c9, kt_cm1, kt_c81, kt_c40, kt_c7, kt_c5, kt_c6, kt_c512, kt_c10, kt_c10000] at d_115
            refine lv_iconst (v := 1) hx hb dX3_hasSeen_118 (by decide) ?_
            refine lv_goto (tgt := 123) hx hb dX3_hasSeen_119 (by decide) ?_
            exact j_123 (1 : Int32) (by show (1 : Int32).toInt = (if a_102 = (upd ff p1.toNatClampNeg p2) a_47.toNatClampNeg then 1 else 0) ∧ 0 ≤ (1 : Int32).toInt ∧ (1 : Int32).toInt ≤ 1; first | exact ⟨by rw [if_pos (by rw [← ea_112, ← hv7]; exact c_115)]; decide, by decide⟩ | exact ⟨by rw [if_neg (by rw [← ea_112, ← hv7]; exact c_115)]; decide, by decide⟩) H _ hP hD hS ls (lv_sub hl [0, 1, 2, 3, 4, 5, 6, 7] rfl)
        refine lv_icmp_ne (tgt := 86) hx hb dX3_hasSeen_79 (by decide) (fun c_79 => ?_) (fun c_79 => ?_)
        · have d_79 := c_79
          simp only [kt_lt, kt_le, kt_eq, kt_c0, kt_c1, kt_c2, kt_c3, kt_c4, kt_c8, kt_c9, kt_cm1, kt_c81, kt_c40, kt_c7, kt_c5, kt_c6, kt_c512, kt_c10, kt_c10000] at d_79
          refine lv_iconst (v := 0) hx hb dX3_hasSeen_86 (by decide) ?_
          exact j_87 (0 : Int32) (by show (0 : Int32).toInt = (if g a_47.toNatClampNeg = (upd ff p1.toNatClampNeg p2) a_47.toNatClampNeg then 1 else 0) ∧ 0 ≤ (0 : Int32).toInt ∧ (0 : Int32).toInt ≤ 1; first | exact ⟨by rw [if_pos (by rw [← e76, ← hv7]; exact c_79)]; decide, by decide⟩ | exact ⟨by rw [if_neg (by rw [← e76, ← hv7]; exact c_79)]; decide, by decide⟩) H _ hP hD hS ls (lv_sub hl [0, 1, 2, 3, 4, 5, 6, 7] rfl)
        · have d_79 := c_79
          simp only [kt_lt, kt_le, kt_eq, kt_c0, kt_c1, kt_c2, kt_c3, kt_c4, kt_c8, kt_c9, kt_cm1, kt_c81, kt_c40, kt_c7, kt_c5, kt_c6, kt_c512, kt_c10, kt_c10000] at d_79
          refine lv_iconst (v := 1) hx hb dX3_hasSeen_82 (by decide) ?_
          refine lv_goto (tgt := 87) hx hb dX3_hasSeen_83 (by decide) ?_
          exact j_87 (1 : Int32) (by show (1 : Int32).toInt = (if g a_47.toNatClampNeg = (upd ff p1.toNatClampNeg p2) a_47.toNatClampNeg then 1 else 0) ∧ 0 ≤ (1 : Int32).toInt ∧ (1 : Int32).toInt ≤ 1; first | exact ⟨by rw [if_pos (by rw [← e76, ← hv7]; exact c_79)]; decide, by decide⟩ | exact ⟨by rw [if_neg (by rw [← e76, ← hv7]; exact c_79)]; decide, by decide⟩) H _ hP hD hS ls (lv_sub hl [0, 1, 2, 3, 4, 5, 6, 7] rfl)
      refine lv_icmp_ne (tgt := 60) hx hb dX3_hasSeen_53 (by decide) (fun c_53 => ?_) (fun c_53 => ?_)
      · have d_53 := c_53
        simp only [kt_lt, kt_le, kt_eq, kt_c0, kt_c1, kt_c2, kt_c3, kt_c4, kt_c8, kt_c9, kt_cm1, kt_c81, kt_c40, kt_c7, kt_c5, kt_c6, kt_c512, kt_c10, kt_c10000] at d_53
        refine lv_aload_n hx hb dX3_hasSeen_60 rfl (lv_at hl 4 rfl) ?_
        refine lv_iload hx hb dX3_hasSeen_61 (lv_at hl 0 rfl) ?_
        refine kt_pi (wc := [(nw, .inr (8, [.ref sf, .ref sh, .int tu])), (sf, .inl (cI, 40, .inl ff))]) [5, 6] hP hD hS hA rfl (by decide) (fun hPc hDc => va_runV (As := [.int a_47]) (rest := []) ⟨hx, hb, hml, hown, hts⟩ (c_X8_fieldOfE l D cI cZ cB H.size nw sf sh tu ff a_47 hff) (cwV 1 hts gX3_hasSeen_X8_fieldOf rfl rfl rfl (by decide +kernel) ⟨Nat.le_of_ble_eq_true rfl, Nat.le_of_ble_eq_true rfl⟩) (kt_preV hN hK hPc hDc 0 (ci := 8) (q := (RX8, TX8, 3)) rfl rfl) rfl rfl hl.1 rfl (lv_room (Nat.le_of_ble_eq_true rfl)) dX3_hasSeen_63 ⟨Nat.le_of_ble_eq_true rfl, Nat.le_of_ble_eq_true rfl⟩) (fun r_63 _ H locs hw_63 hP hS => ?_)
        have e63 := hw_63.1 (by omega)
        exact j_66 r_63 (by show r_63 = (upd ff p1.toNatClampNeg p2) a_47.toNatClampNeg; first | (rw [c_53, pk_us]; done) | (rw [pk_un (fun h => c_53 ((kt_eq _ _).mpr (by have h2 : a_47.toInt.toNat = p1.toInt.toNat := h; omega))), e63]; done)) H _ hP hD hS ls (lv_sub hl [0, 1, 2, 3, 4, 5, 6] rfl)
      · have d_53 := c_53
        simp only [kt_lt, kt_le, kt_eq, kt_c0, kt_c1, kt_c2, kt_c3, kt_c4, kt_c8, kt_c9, kt_cm1, kt_c81, kt_c40, kt_c7, kt_c5, kt_c6, kt_c512, kt_c10, kt_c10000] at d_53
        refine lv_iload_n hx hb dX3_hasSeen_56 rfl (lv_at hl 6 rfl) ?_
        refine lv_goto (tgt := 66) hx hb dX3_hasSeen_57 (by decide) ?_
        exact j_66 p2 (by show p2 = (upd ff p1.toNatClampNeg p2) a_47.toNatClampNeg; first | (rw [c_53, pk_us]; done) | (rw [pk_un (fun h => c_53 ((kt_eq _ _).mpr (by have h2 : a_47.toInt.toNat = p1.toInt.toNat := h; omega))), e63]; done)) H _ hP hD hS ls (lv_sub hl [0, 1, 2, 3, 4, 5, 6] rfl)
