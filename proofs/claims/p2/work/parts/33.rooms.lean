/-- the new length of a row that must hold 'need': twice what it had, up to 'most' -/
def kt_rf (need had most : Int) : Int := if need < (if most < 2 * had then most else 2 * had) then (if most < 2 * had then most else 2 * had) else need
theorem kt_rf_b (need had most : Int) : need ≤ kt_rf need had most ∧ (kt_rf need had most = need ∨ kt_rf need had most = most ∨ kt_rf need had most = 2 * had) ∧ (need ≤ most → kt_rf need had most ≤ most) := by
  unfold kt_rf
  split <;> split <;> omega
theorem kt_mm {x y : Int32} : (if x < y then y else x).toInt = if x.toInt < y.toInt then y.toInt else x.toInt := by
  by_cases h : x < y
  · rw [if_pos h, if_pos ((kt_lt x y).mp h)]
  · rw [if_neg h, if_neg (fun h2 => h ((kt_lt x y).mpr h2))]
theorem kt_mn {x y : Int32} : (if y < x then y else x).toInt = if y.toInt < x.toInt then y.toInt else x.toInt := by
  by_cases h : y < x
  · rw [if_pos h, if_pos ((kt_lt y x).mp h)]
  · rw [if_neg h, if_neg (fun h2 => h ((kt_lt y x).mpr h2))]

set_option maxHeartbeats 4000000 in
set_option maxRecDepth 100000 in
theorem c_X2_roomFor (l : Launch) (D : va_G) (cI cZ cB : ClassId) (sz : Nat) (p0 : Int32) (p1 : Int32) (p2 : Int32) (hb0 : 0 ≤ p1.toInt ∧ p1.toInt ≤ 1000000) : kt_Mi l yX2_roomFor wsX2_roomFor { frames := 1, cells := 0, slots := 0, locals := 14 } D (kt_ty cI cZ cB) [.int p0, .int p1, .int p2] sz [] (fun (r : Int32) (u : Unit) => r.toInt = kt_rf p0.toInt p1.toInt p2.toInt) (fun (u : Unit) => []) 0 0 := by
  refine kt_Mi.of (cc := cX2_roomFor) (maxL := 3) (ret := some .int) (by decide) rfl (Nat.le_of_ble_eq_true rfl) ?_
  intro p e s m below meth c A ls H hAt hP hD hS hl
  obtain ⟨hx, hb, hr, hml, hown, hts, hN, hK, hlk, hnm, hA⟩ := hAt
  have hl : lv_has ls 3 [(0, .int p0), (1, .int p1), (2, .int p2)] := hl
  have hown : s.vm.findClass RX2 = some m.cls := hown
  refine lv_iload_n hx hb dX2_roomFor_0 rfl (lv_at hl 0 rfl) ?_
  refine lv_iconst (v := 2) hx hb dX2_roomFor_1 (by decide) ?_
  refine lv_iload_n hx hb dX2_roomFor_2 rfl (lv_at hl 1 rfl) ?_
  refine lv_imul hx hb dX2_roomFor_3 ?_
  refine lv_topi (fun t_3 et_3 => ?_)
  obtain ⟨k_3, hk_3, hm_3, hM_3⟩ := kt_mulk (C := 2) (et_3.trans (Int32.mul_comm _ _)) (by decide)
  try simp only [kt_c0, kt_c1, kt_c2, kt_c3, kt_c4, kt_c8, kt_c9, kt_cm1, kt_c81, kt_c40, kt_c7, kt_c5, kt_c6, kt_c512, kt_c10, kt_c10000] at hk_3
  refine lv_iload_n hx hb dX2_roomFor_4 rfl (lv_at hl 2 rfl) ?_
  refine va_mmin hx hb (by rw [hml]; exact hl.1.symm) hown (hts (.methodLink RX2 36 Lib.Math.min.name) (by decide +kernel)) (hts (.static Lib.Math.min.name) (by decide +kernel)) (hts (.initialized "java/lang/Math") (by decide +kernel)) (hts (.code Lib.Math.min.name Lib.Math.min.code 2 (some .int)) (by decide +kernel)) (Nat.le_of_ble_eq_true rfl) (Nat.le_of_ble_eq_true rfl) (Nat.le_of_ble_eq_true rfl) (Nat.le_of_ble_eq_true rfl) dX2_roomFor_5 ?_
  refine va_mmax hx hb (by rw [hml]; exact hl.1.symm) hown (hts (.methodLink RX2 42 Lib.Math.max.name) (by decide +kernel)) (hts (.static Lib.Math.max.name) (by decide +kernel)) (hts (.initialized "java/lang/Math") (by decide +kernel)) (hts (.code Lib.Math.max.name Lib.Math.max.code 2 (some .int)) (by decide +kernel)) (Nat.le_of_ble_eq_true rfl) (Nat.le_of_ble_eq_true rfl) (Nat.le_of_ble_eq_true rfl) (Nat.le_of_ble_eq_true rfl) dX2_roomFor_8 ?_
  exact kt_ri () hx hb hr hlk hS dX2_roomFor_11 hP hD (by show (if p0 < (if p2 < t_3 then p2 else t_3) then if p2 < t_3 then p2 else t_3 else p0).toInt = kt_rf p0.toInt p1.toInt p2.toInt; rw [kt_mm, kt_mn, show t_3.toInt = 2 * p1.toInt by omega]; rfl)

theorem iw_X7_makeRoom_X7 : ∀ w ∈ wsX70, w ∈ wsX7_makeRoom := by decide +kernel
set_option maxHeartbeats 4000000 in
set_option maxRecDepth 100000 in
theorem c_X7_makeRoom_n (l : Launch) (D : va_G) (cI cZ cB : ClassId) (sz : Nat) (so : Nat) (ru : Nat) (tr : Nat) (lk : Nat) (vp : Nat) (vd : Nat) (vt : Nat) (vg : Nat) (vw : Nat) (ve : Nat) (vo : Nat) (vq : Nat) (qd : Int32) (pp : Int32) (ct : Int32) (sv : Int32) (LW : Nat) (wo : Nat → Int32) (de : Nat → Int32) (op : Nat → Int32) (qu : Nat → Int32) (p1 : Int32) (hlw : LW ≤ 10000) (hgr : p1.toInt ≤ (LW : Int)) : kt_Mv l yX7_makeRoom wsX7_makeRoom { frames := 0, cells := 0, slots := 0, locals := 0 } D (kt_ty cI cZ cB) [.ref so, .int p1] sz [(so, .inr (7, [.ref ru, .ref tr, .ref lk, .ref vp, .ref vd, .ref vt, .ref vg, .ref vw, .ref ve, .ref vo, .ref vq, .int qd, .int pp, .int ct, .int sv])), (vw, .inl (cI, LW, .inl wo)), (ve, .inl (cI, LW, .inl de)), (vo, .inl (cI, LW, .inl op)), (vq, .inl (cI, LW, .inl qu))] (fun (u : Unit) => True) (fun (u : Unit) => [(so, .inr (7, [.ref ru, .ref tr, .ref lk, .ref vp, .ref vd, .ref vt, .ref vg, .ref vw, .ref ve, .ref vo, .ref vq, .int qd, .int pp, .int ct, .int sv])), (vw, .inl (cI, LW, .inl wo)), (ve, .inl (cI, LW, .inl de)), (vo, .inl (cI, LW, .inl op)), (vq, .inl (cI, LW, .inl qu))]) 0 0 := by
  refine kt_Mv.of (cc := cX7_makeRoom) (maxL := 3) (ret := none) (by decide) rfl (Nat.le_of_ble_eq_true rfl) ?_
  intro p e s m below meth c A ls H hAt hP hD hS hl
  obtain ⟨hx, hb, hr, hml, hown, hts, hN, hK, hlk, hnm, hA⟩ := hAt
  have hl : lv_has ls 3 [(0, .ref so), (1, .int p1)] := hl
  have hown : s.vm.findClass RX7 = some m.cls := hown
  have hLWi : (nI LW).toInt = (LW : Int) := kt_nI (by omega)
  refine lv_aload_n hx hb dX7_makeRoom_0 rfl (lv_at hl 0 rfl) ?_
  refine va_get (D := D) (ci := 7) (C := RX7) (T := TX7) (N := 15) hx hb hts iw_X7_makeRoom_X7 hown hK hP 0 rfl rfl 7 (by decide) (hts (.fieldLink RX7 38 "KingTable$Solver" "worths" "[I") (by decide +kernel)) (fun _ h9 => h9) rfl dX7_makeRoom_1 ?_
  refine va_alen hx hb hK hP 1 0 rfl rfl (v := nI LW) rfl dX7_makeRoom_4 ?_
  refine lv_iload_n hx hb dX7_makeRoom_5 rfl (lv_at hl 1 rfl) ?_
  refine lv_icmp_ge (tgt := 50) hx hb dX7_makeRoom_6 (by decide) (fun c_6 => ?_) (fun c_6 => (by exfalso; apply c_6; rw [kt_le]; omega))
  exact kt_rv () hx hb hr hlk hS dX7_makeRoom_50 hP hD (by show True; trivial)

set_option maxHeartbeats 4000000 in
set_option maxRecDepth 100000 in
theorem c_X7_makeRoom_y (l : Launch) (D : va_G) (cI cZ cB : ClassId) (sz : Nat) (so : Nat) (ru : Nat) (tr : Nat) (lk : Nat) (vp : Nat) (vd : Nat) (vt : Nat) (vg : Nat) (vw : Nat) (ve : Nat) (vo : Nat) (vq : Nat) (qd : Int32) (pp : Int32) (ct : Int32) (sv : Int32) (LW : Nat) (wo : Nat → Int32) (de : Nat → Int32) (op : Nat → Int32) (qu : Nat → Int32) (p1 : Int32) (hlw : LW ≤ 10000) (hgr : (LW : Int) < p1.toInt) (hp1 : p1.toInt ≤ 10000) : kt_Mv l yX7_makeRoom wsX7_makeRoom { frames := 2, cells := 4, slots := 4 * (kt_rf p1.toInt (LW : Int) 10000).toNat, locals := 36 } D (kt_ty cI cZ cB) [.ref so, .int p1] sz [(so, .inr (7, [.ref ru, .ref tr, .ref lk, .ref vp, .ref vd, .ref vt, .ref vg, .ref vw, .ref ve, .ref vo, .ref vq, .int qd, .int pp, .int ct, .int sv])), (vw, .inl (cI, LW, .inl wo)), (ve, .inl (cI, LW, .inl de)), (vo, .inl (cI, LW, .inl op)), (vq, .inl (cI, LW, .inl qu))] (fun (u : Nat × Nat × Nat × Nat × Nat) => (u.2.2.2.2 : Int) = kt_rf p1.toInt (LW : Int) 10000) (fun (u : Nat × Nat × Nat × Nat × Nat) => [(so, .inr (7, [.ref ru, .ref tr, .ref lk, .ref vp, .ref vd, .ref vt, .ref vg, .ref u.1, .ref u.2.1, .ref u.2.2.1, .ref u.2.2.2.1, .int qd, .int pp, .int ct, .int sv])), (u.1, .inl (cI, u.2.2.2.2, .inl (fun _ => 0))), (u.2.1, .inl (cI, u.2.2.2.2, .inl (fun _ => 0))), (u.2.2.1, .inl (cI, u.2.2.2.2, .inl (fun _ => 0))), (u.2.2.2.1, .inl (cI, u.2.2.2.2, .inl (fun _ => 0)))]) 4 (4 * (kt_rf p1.toInt (LW : Int) 10000).toNat) := by
  refine kt_Mv.of (cc := cX7_makeRoom) (maxL := 3) (ret := none) (by decide) rfl (Nat.le_of_ble_eq_true rfl) ?_
  intro p e s m below meth c A ls H hAt hP hD hS hl
  obtain ⟨hx, hb, hr, hml, hown, hts, hN, hK, hlk, hnm, hA⟩ := hAt
  have hl : lv_has ls 3 [(0, .ref so), (1, .int p1)] := hl
  have hown : s.vm.findClass RX7 = some m.cls := hown
  have hLWi : (nI LW).toInt = (LW : Int) := kt_nI (by omega)
  have hrf := kt_rf_b p1.toInt (LW : Int) 10000
  refine lv_aload_n hx hb dX7_makeRoom_0 rfl (lv_at hl 0 rfl) ?_
  refine va_get (D := D) (ci := 7) (C := RX7) (T := TX7) (N := 15) hx hb hts iw_X7_makeRoom_X7 hown hK hP 0 rfl rfl 7 (by decide) (hts (.fieldLink RX7 38 "KingTable$Solver" "worths" "[I") (by decide +kernel)) (fun _ h9 => h9) rfl dX7_makeRoom_1 ?_
  refine va_alen hx hb hK hP 1 0 rfl rfl (v := nI LW) rfl dX7_makeRoom_4 ?_
  refine lv_iload_n hx hb dX7_makeRoom_5 rfl (lv_at hl 1 rfl) ?_
  refine lv_icmp_ge (tgt := 50) hx hb dX7_makeRoom_6 (by decide) (fun c_6 => (by exfalso; rw [kt_le] at c_6; omega)) (fun c_6 => ?_)
  refine lv_iload_n hx hb dX7_makeRoom_9 rfl (lv_at hl 1 rfl) ?_
  refine lv_aload_n hx hb dX7_makeRoom_10 rfl (lv_at hl 0 rfl) ?_
  refine va_get (D := D) (ci := 7) (C := RX7) (T := TX7) (N := 15) hx hb hts iw_X7_makeRoom_X7 hown hK hP 0 rfl rfl 7 (by decide) (hts (.fieldLink RX7 38 "KingTable$Solver" "worths" "[I") (by decide +kernel)) (fun _ h9 => h9) rfl dX7_makeRoom_11 ?_
  refine va_alen hx hb hK hP 1 0 rfl rfl (v := nI LW) rfl dX7_makeRoom_14 ?_
  refine lv_sipush (v := 10000) hx hb dX7_makeRoom_15 (by decide) ?_
  refine kt_pi (wc := []) [] hP hD hS hA rfl (by decide) (fun hPc hDc => va_runS (As := [.int p1, .int (nI LW), .int 10000]) (rest := []) ⟨hx, hb, hml, hown, hts⟩ (c_X2_roomFor l D cI cZ cB H.size p1 (nI LW) 10000 (by first | assumption | omega | rfl | decide)) (va_cwS 3 hts gX7_makeRoom_X2_roomFor rfl rfl rfl (by decide +kernel) ⟨Nat.le_of_ble_eq_true rfl, Nat.le_of_ble_eq_true rfl⟩) (kt_preS hN hK hPc hDc) rfl rfl hl.1 rfl (lv_room (Nat.le_of_ble_eq_true rfl)) dX7_makeRoom_18 ⟨by show 0 + 0 ≤ 4; omega, by show 0 + 0 ≤ 4 * (kt_rf p1.toInt (LW : Int) 10000).toNat; omega⟩) (fun r_18 _ H locs hw_18 hP hS => ?_)
  rw [hLWi] at hw_18
  have hrf2 : r_18.toInt = kt_rf p1.toInt (LW : Int) 10000 := hw_18
  refine lv_istore_n (lv' := [(2, .int r_18), (0, .ref so), (1, .int p1)]) hx hb dX7_makeRoom_21 rfl hl (by decide) rfl (fun ls hl => ?_)
  refine lv_aload_n hx hb dX7_makeRoom_22 rfl (lv_at hl 1 rfl) ?_
  refine lv_iload_n hx hb dX7_makeRoom_23 rfl (lv_at hl 0 rfl) ?_
  refine kt_newa (atype := .int) (ty := .int) (cA := cI) hx hb (hts (.arrayClass .int) (by decide +kernel)) rfl hK hP hD hS hA 0 rfl (fun _ h => h) (N' := r_18.toNatClampNeg) (fun _ => rfl) (by rw [kt_lt, kt_c0]; omega) rfl (by show r_18.toInt.toNat * 4 ≤ 536870912; omega) (by show 0 + 1 ≤ 4; omega) (by show 0 + r_18.toInt.toNat ≤ 4 * (kt_rf p1.toInt (LW : Int) 10000).toNat; omega) dX7_makeRoom_24 (fun q24 H hP hD hS => ?_)
  have hP : va_P D vwCl [(so, .inr (7, [.ref ru, .ref tr, .ref lk, .ref vp, .ref vd, .ref vt, .ref vg, .ref vw, .ref ve, .ref vo, .ref vq, .int qd, .int pp, .int ct, .int sv])), (vw, .inl (cI, LW, .inl wo)), (ve, .inl (cI, LW, .inl de)), (vo, .inl (cI, LW, .inl op)), (vq, .inl (cI, LW, .inl qu)), (q24, .inl (cI, r_18.toNatClampNeg, .inl (fun _ => 0)))] H := hP
  have hD : va_D A [(so, .inr (7, [.ref ru, .ref tr, .ref lk, .ref vp, .ref vd, .ref vt, .ref vg, .ref vw, .ref ve, .ref vo, .ref vq, .int qd, .int pp, .int ct, .int sv])), (vw, .inl (cI, LW, .inl wo)), (ve, .inl (cI, LW, .inl de)), (vo, .inl (cI, LW, .inl op)), (vq, .inl (cI, LW, .inl qu)), (q24, .inl (cI, r_18.toNatClampNeg, .inl (fun _ => 0)))] := hD
  refine va_put (D := D) (ci := 7) (v := .ref q24) (ty := .array .int) (C := RX7) (T := TX7) (N := 15) hx hb hts iw_X7_makeRoom_X7 tyX7 tyX7_ok nmX7 hown hK hP hD hS 0 rfl rfl 7 (by decide) (hts (.fieldLink RX7 38 "KingTable$Solver" "worths" "[I") (by decide +kernel)) (fun _ h9 => h9) rfl (by decide +kernel) rfl rfl (Nat.le_of_ble_eq_true rfl) dX7_makeRoom_26 (fun H locs hP hD hS => ?_)
  have hP : va_P D vwCl [(so, .inr (7, [.ref ru, .ref tr, .ref lk, .ref vp, .ref vd, .ref vt, .ref vg, .ref q24, .ref ve, .ref vo, .ref vq, .int qd, .int pp, .int ct, .int sv])), (vw, .inl (cI, LW, .inl wo)), (ve, .inl (cI, LW, .inl de)), (vo, .inl (cI, LW, .inl op)), (vq, .inl (cI, LW, .inl qu)), (q24, .inl (cI, r_18.toNatClampNeg, .inl (fun _ => 0)))] H := hP
  have hD : va_D A [(so, .inr (7, [.ref ru, .ref tr, .ref lk, .ref vp, .ref vd, .ref vt, .ref vg, .ref q24, .ref ve, .ref vo, .ref vq, .int qd, .int pp, .int ct, .int sv])), (vw, .inl (cI, LW, .inl wo)), (ve, .inl (cI, LW, .inl de)), (vo, .inl (cI, LW, .inl op)), (vq, .inl (cI, LW, .inl qu)), (q24, .inl (cI, r_18.toNatClampNeg, .inl (fun _ => 0)))] := hD
  refine lv_aload_n hx hb dX7_makeRoom_29 rfl (lv_at hl 1 rfl) ?_
  refine lv_iload_n hx hb dX7_makeRoom_30 rfl (lv_at hl 0 rfl) ?_
  refine kt_newa (atype := .int) (ty := .int) (cA := cI) hx hb (hts (.arrayClass .int) (by decide +kernel)) rfl hK hP hD hS hA 0 rfl (fun _ h => h) (N' := r_18.toNatClampNeg) (fun _ => rfl) (by rw [kt_lt, kt_c0]; omega) rfl (by show r_18.toInt.toNat * 4 ≤ 536870912; omega) (by show 0 + 1 + 1 ≤ 4; omega) (by show 0 + r_18.toInt.toNat + r_18.toInt.toNat ≤ 4 * (kt_rf p1.toInt (LW : Int) 10000).toNat; omega) dX7_makeRoom_31 (fun q31 H hP hD hS => ?_)
  have hP : va_P D vwCl [(so, .inr (7, [.ref ru, .ref tr, .ref lk, .ref vp, .ref vd, .ref vt, .ref vg, .ref q24, .ref ve, .ref vo, .ref vq, .int qd, .int pp, .int ct, .int sv])), (vw, .inl (cI, LW, .inl wo)), (ve, .inl (cI, LW, .inl de)), (vo, .inl (cI, LW, .inl op)), (vq, .inl (cI, LW, .inl qu)), (q24, .inl (cI, r_18.toNatClampNeg, .inl (fun _ => 0))), (q31, .inl (cI, r_18.toNatClampNeg, .inl (fun _ => 0)))] H := hP
  have hD : va_D A [(so, .inr (7, [.ref ru, .ref tr, .ref lk, .ref vp, .ref vd, .ref vt, .ref vg, .ref q24, .ref ve, .ref vo, .ref vq, .int qd, .int pp, .int ct, .int sv])), (vw, .inl (cI, LW, .inl wo)), (ve, .inl (cI, LW, .inl de)), (vo, .inl (cI, LW, .inl op)), (vq, .inl (cI, LW, .inl qu)), (q24, .inl (cI, r_18.toNatClampNeg, .inl (fun _ => 0))), (q31, .inl (cI, r_18.toNatClampNeg, .inl (fun _ => 0)))] := hD
  refine va_put (D := D) (ci := 7) (v := .ref q31) (ty := .array .int) (C := RX7) (T := TX7) (N := 15) hx hb hts iw_X7_makeRoom_X7 tyX7 tyX7_ok nmX7 hown hK hP hD hS 0 rfl rfl 8 (by decide) (hts (.fieldLink RX7 41 "KingTable$Solver" "deeps" "[I") (by decide +kernel)) (fun _ h9 => h9) rfl (by decide +kernel) rfl rfl (Nat.le_of_ble_eq_true rfl) dX7_makeRoom_33 (fun H locs hP hD hS => ?_)
  have hP : va_P D vwCl [(so, .inr (7, [.ref ru, .ref tr, .ref lk, .ref vp, .ref vd, .ref vt, .ref vg, .ref q24, .ref q31, .ref vo, .ref vq, .int qd, .int pp, .int ct, .int sv])), (vw, .inl (cI, LW, .inl wo)), (ve, .inl (cI, LW, .inl de)), (vo, .inl (cI, LW, .inl op)), (vq, .inl (cI, LW, .inl qu)), (q24, .inl (cI, r_18.toNatClampNeg, .inl (fun _ => 0))), (q31, .inl (cI, r_18.toNatClampNeg, .inl (fun _ => 0)))] H := hP
  have hD : va_D A [(so, .inr (7, [.ref ru, .ref tr, .ref lk, .ref vp, .ref vd, .ref vt, .ref vg, .ref q24, .ref q31, .ref vo, .ref vq, .int qd, .int pp, .int ct, .int sv])), (vw, .inl (cI, LW, .inl wo)), (ve, .inl (cI, LW, .inl de)), (vo, .inl (cI, LW, .inl op)), (vq, .inl (cI, LW, .inl qu)), (q24, .inl (cI, r_18.toNatClampNeg, .inl (fun _ => 0))), (q31, .inl (cI, r_18.toNatClampNeg, .inl (fun _ => 0)))] := hD
  refine lv_aload_n hx hb dX7_makeRoom_36 rfl (lv_at hl 1 rfl) ?_
  refine lv_iload_n hx hb dX7_makeRoom_37 rfl (lv_at hl 0 rfl) ?_
  refine kt_newa (atype := .int) (ty := .int) (cA := cI) hx hb (hts (.arrayClass .int) (by decide +kernel)) rfl hK hP hD hS hA 0 rfl (fun _ h => h) (N' := r_18.toNatClampNeg) (fun _ => rfl) (by rw [kt_lt, kt_c0]; omega) rfl (by show r_18.toInt.toNat * 4 ≤ 536870912; omega) (by show 0 + 1 + 1 + 1 ≤ 4; omega) (by show 0 + r_18.toInt.toNat + r_18.toInt.toNat + r_18.toInt.toNat ≤ 4 * (kt_rf p1.toInt (LW : Int) 10000).toNat; omega) dX7_makeRoom_38 (fun q38 H hP hD hS => ?_)
  have hP : va_P D vwCl [(so, .inr (7, [.ref ru, .ref tr, .ref lk, .ref vp, .ref vd, .ref vt, .ref vg, .ref q24, .ref q31, .ref vo, .ref vq, .int qd, .int pp, .int ct, .int sv])), (vw, .inl (cI, LW, .inl wo)), (ve, .inl (cI, LW, .inl de)), (vo, .inl (cI, LW, .inl op)), (vq, .inl (cI, LW, .inl qu)), (q24, .inl (cI, r_18.toNatClampNeg, .inl (fun _ => 0))), (q31, .inl (cI, r_18.toNatClampNeg, .inl (fun _ => 0))), (q38, .inl (cI, r_18.toNatClampNeg, .inl (fun _ => 0)))] H := hP
  have hD : va_D A [(so, .inr (7, [.ref ru, .ref tr, .ref lk, .ref vp, .ref vd, .ref vt, .ref vg, .ref q24, .ref q31, .ref vo, .ref vq, .int qd, .int pp, .int ct, .int sv])), (vw, .inl (cI, LW, .inl wo)), (ve, .inl (cI, LW, .inl de)), (vo, .inl (cI, LW, .inl op)), (vq, .inl (cI, LW, .inl qu)), (q24, .inl (cI, r_18.toNatClampNeg, .inl (fun _ => 0))), (q31, .inl (cI, r_18.toNatClampNeg, .inl (fun _ => 0))), (q38, .inl (cI, r_18.toNatClampNeg, .inl (fun _ => 0)))] := hD
  refine va_put (D := D) (ci := 7) (v := .ref q38) (ty := .array .int) (C := RX7) (T := TX7) (N := 15) hx hb hts iw_X7_makeRoom_X7 tyX7 tyX7_ok nmX7 hown hK hP hD hS 0 rfl rfl 9 (by decide) (hts (.fieldLink RX7 44 "KingTable$Solver" "open" "[I") (by decide +kernel)) (fun _ h9 => h9) rfl (by decide +kernel) rfl rfl (Nat.le_of_ble_eq_true rfl) dX7_makeRoom_40 (fun H locs hP hD hS => ?_)
  have hP : va_P D vwCl [(so, .inr (7, [.ref ru, .ref tr, .ref lk, .ref vp, .ref vd, .ref vt, .ref vg, .ref q24, .ref q31, .ref q38, .ref vq, .int qd, .int pp, .int ct, .int sv])), (vw, .inl (cI, LW, .inl wo)), (ve, .inl (cI, LW, .inl de)), (vo, .inl (cI, LW, .inl op)), (vq, .inl (cI, LW, .inl qu)), (q24, .inl (cI, r_18.toNatClampNeg, .inl (fun _ => 0))), (q31, .inl (cI, r_18.toNatClampNeg, .inl (fun _ => 0))), (q38, .inl (cI, r_18.toNatClampNeg, .inl (fun _ => 0)))] H := hP
  have hD : va_D A [(so, .inr (7, [.ref ru, .ref tr, .ref lk, .ref vp, .ref vd, .ref vt, .ref vg, .ref q24, .ref q31, .ref q38, .ref vq, .int qd, .int pp, .int ct, .int sv])), (vw, .inl (cI, LW, .inl wo)), (ve, .inl (cI, LW, .inl de)), (vo, .inl (cI, LW, .inl op)), (vq, .inl (cI, LW, .inl qu)), (q24, .inl (cI, r_18.toNatClampNeg, .inl (fun _ => 0))), (q31, .inl (cI, r_18.toNatClampNeg, .inl (fun _ => 0))), (q38, .inl (cI, r_18.toNatClampNeg, .inl (fun _ => 0)))] := hD
  refine lv_aload_n hx hb dX7_makeRoom_43 rfl (lv_at hl 1 rfl) ?_
  refine lv_iload_n hx hb dX7_makeRoom_44 rfl (lv_at hl 0 rfl) ?_
  refine kt_newa (atype := .int) (ty := .int) (cA := cI) hx hb (hts (.arrayClass .int) (by decide +kernel)) rfl hK hP hD hS hA 0 rfl (fun _ h => h) (N' := r_18.toNatClampNeg) (fun _ => rfl) (by rw [kt_lt, kt_c0]; omega) rfl (by show r_18.toInt.toNat * 4 ≤ 536870912; omega) (by show 0 + 1 + 1 + 1 + 1 ≤ 4; omega) (by show 0 + r_18.toInt.toNat + r_18.toInt.toNat + r_18.toInt.toNat + r_18.toInt.toNat ≤ 4 * (kt_rf p1.toInt (LW : Int) 10000).toNat; omega) dX7_makeRoom_45 (fun q45 H hP hD hS => ?_)
  have hP : va_P D vwCl [(so, .inr (7, [.ref ru, .ref tr, .ref lk, .ref vp, .ref vd, .ref vt, .ref vg, .ref q24, .ref q31, .ref q38, .ref vq, .int qd, .int pp, .int ct, .int sv])), (vw, .inl (cI, LW, .inl wo)), (ve, .inl (cI, LW, .inl de)), (vo, .inl (cI, LW, .inl op)), (vq, .inl (cI, LW, .inl qu)), (q24, .inl (cI, r_18.toNatClampNeg, .inl (fun _ => 0))), (q31, .inl (cI, r_18.toNatClampNeg, .inl (fun _ => 0))), (q38, .inl (cI, r_18.toNatClampNeg, .inl (fun _ => 0))), (q45, .inl (cI, r_18.toNatClampNeg, .inl (fun _ => 0)))] H := hP
  have hD : va_D A [(so, .inr (7, [.ref ru, .ref tr, .ref lk, .ref vp, .ref vd, .ref vt, .ref vg, .ref q24, .ref q31, .ref q38, .ref vq, .int qd, .int pp, .int ct, .int sv])), (vw, .inl (cI, LW, .inl wo)), (ve, .inl (cI, LW, .inl de)), (vo, .inl (cI, LW, .inl op)), (vq, .inl (cI, LW, .inl qu)), (q24, .inl (cI, r_18.toNatClampNeg, .inl (fun _ => 0))), (q31, .inl (cI, r_18.toNatClampNeg, .inl (fun _ => 0))), (q38, .inl (cI, r_18.toNatClampNeg, .inl (fun _ => 0))), (q45, .inl (cI, r_18.toNatClampNeg, .inl (fun _ => 0)))] := hD
  refine va_put (D := D) (ci := 7) (v := .ref q45) (ty := .array .int) (C := RX7) (T := TX7) (N := 15) hx hb hts iw_X7_makeRoom_X7 tyX7 tyX7_ok nmX7 hown hK hP hD hS 0 rfl rfl 10 (by decide) (hts (.fieldLink RX7 47 "KingTable$Solver" "queue" "[I") (by decide +kernel)) (fun _ h9 => h9) rfl (by decide +kernel) rfl rfl (Nat.le_of_ble_eq_true rfl) dX7_makeRoom_47 (fun H locs hP hD hS => ?_)
  have hP : va_P D vwCl [(so, .inr (7, [.ref ru, .ref tr, .ref lk, .ref vp, .ref vd, .ref vt, .ref vg, .ref q24, .ref q31, .ref q38, .ref q45, .int qd, .int pp, .int ct, .int sv])), (vw, .inl (cI, LW, .inl wo)), (ve, .inl (cI, LW, .inl de)), (vo, .inl (cI, LW, .inl op)), (vq, .inl (cI, LW, .inl qu)), (q24, .inl (cI, r_18.toNatClampNeg, .inl (fun _ => 0))), (q31, .inl (cI, r_18.toNatClampNeg, .inl (fun _ => 0))), (q38, .inl (cI, r_18.toNatClampNeg, .inl (fun _ => 0))), (q45, .inl (cI, r_18.toNatClampNeg, .inl (fun _ => 0)))] H := hP
  have hD : va_D A [(so, .inr (7, [.ref ru, .ref tr, .ref lk, .ref vp, .ref vd, .ref vt, .ref vg, .ref q24, .ref q31, .ref q38, .ref q45, .int qd, .int pp, .int ct, .int sv])), (vw, .inl (cI, LW, .inl wo)), (ve, .inl (cI, LW, .inl de)), (vo, .inl (cI, LW, .inl op)), (vq, .inl (cI, LW, .inl qu)), (q24, .inl (cI, r_18.toNatClampNeg, .inl (fun _ => 0))), (q31, .inl (cI, r_18.toNatClampNeg, .inl (fun _ => 0))), (q38, .inl (cI, r_18.toNatClampNeg, .inl (fun _ => 0))), (q45, .inl (cI, r_18.toNatClampNeg, .inl (fun _ => 0)))] := hD
  refine W.widen (k := 4) (n := 4 * (kt_rf p1.toInt (LW : Int) 10000).toNat) (by show 0 + 1 + 1 + 1 + 1 ≤ 4; omega) (by show 0 + r_18.toInt.toNat + r_18.toInt.toNat + r_18.toInt.toNat + r_18.toInt.toNat ≤ 4 * (kt_rf p1.toInt (LW : Int) 10000).toNat; omega) ?_
  exact kt_rv (q24, q31, q38, q45, r_18.toNatClampNeg) hx hb hr hlk hS dX7_makeRoom_50 (hP.sub [0, 5, 6, 7, 8] rfl) (hD.sub [0, 5, 6, 7, 8] (by decide) rfl) (by show (r_18.toNatClampNeg : Int) = kt_rf p1.toInt (LW : Int) 10000; show ((r_18.toInt.toNat : Nat) : Int) = _; omega)

theorem iw_X2_renew_X2 : ∀ w ∈ wsX20, w ∈ wsX2_renew := by decide +kernel
set_option maxHeartbeats 4000000 in
set_option maxRecDepth 100000 in
theorem c_X2_renew_00 (l : Launch) (D : va_G) (cI cZ cB : ClassId) (sz : Nat) (lk : Nat) (kh : Nat) (ks : Nat) (kn : Nat) (us : Int32) (LH : Nat) (LS : Nat) (he : Nat → Int32) (sr : Nat → Int32) (ne : Nat → Int32) (p1 : Int32) (p2 : Int32) (hlh : LH ≤ 10000) (hls : LS ≤ 118300) (hg1 : p1.toInt ≤ (LH : Int)) (hg2 : p2.toInt ≤ (LS : Int)) (hq1 : p1.toInt ≤ 10000) (hq2 : p2.toInt ≤ 118300) : kt_Mv l yX2_renew wsX2_renew { frames := 1, cells := 0, slots := 0, locals := 23 } D (kt_ty cI cZ cB) [.ref lk, .int p1, .int p2] sz [(lk, .inr (2, [.ref kh, .ref ks, .ref kn, .int us])), (kh, .inl (cI, LH, .inl he)), (ks, .inl (cI, LS, .inl sr)), (kn, .inl (cI, LS, .inl ne))] (fun (u : (Nat → Int32)) => u = fun _ => -1) (fun (u : (Nat → Int32)) => [(lk, .inr (2, [.ref kh, .ref ks, .ref kn, .int 0])), (kh, .inl (cI, LH, .inl u)), (ks, .inl (cI, LS, .inl sr)), (kn, .inl (cI, LS, .inl ne))]) 0 0 := by
  refine kt_Mv.of (cc := cX2_renew) (maxL := 4) (ret := none) (by decide) rfl (Nat.le_of_ble_eq_true rfl) ?_
  intro p e s m below meth c A ls H hAt hP hD hS hl
  obtain ⟨hx, hb, hr, hml, hown, hts, hN, hK, hlk, hnm, hA⟩ := hAt
  have hl : lv_has ls 4 [(0, .ref lk), (1, .int p1), (2, .int p2)] := hl
  have hown : s.vm.findClass RX2 = some m.cls := hown
  have hLHi : (nI LH).toInt = (LH : Int) := kt_nI (by omega)
  have hLSi : (nI LS).toInt = (LS : Int) := kt_nI (by omega)
  have hrh := kt_rf_b p1.toInt (LH : Int) 10000
  have hrs := kt_rf_b p2.toInt (LS : Int) 118300
  refine lv_aload_n hx hb dX2_renew_0 rfl (lv_at hl 0 rfl) ?_
  refine va_get (D := D) (ci := 2) (C := RX2) (T := TX2) (N := 4) hx hb hts iw_X2_renew_X2 hown hK hP 0 rfl rfl 0 (by decide) (hts (.fieldLink RX2 9 "KingTable$Links" "heads" "[I") (by decide +kernel)) (fun _ h9 => h9) rfl dX2_renew_1 ?_
  refine va_alen hx hb hK hP 1 0 rfl rfl (v := nI LH) rfl dX2_renew_4 ?_
  refine lv_iload_n hx hb dX2_renew_5 rfl (lv_at hl 1 rfl) ?_
  refine lv_icmp_ge (tgt := 27) hx hb dX2_renew_6 (by decide) (fun c_6 => ?_) (fun c_6 => (by exfalso; apply c_6; rw [kt_le]; omega))
  refine lv_aload_n hx hb dX2_renew_27 rfl (lv_at hl 0 rfl) ?_
  refine va_get (D := D) (ci := 2) (C := RX2) (T := TX2) (N := 4) hx hb hts iw_X2_renew_X2 hown hK hP 0 rfl rfl 1 (by decide) (hts (.fieldLink RX2 15 "KingTable$Links" "sources" "[I") (by decide +kernel)) (fun _ h9 => h9) rfl dX2_renew_28 ?_
  refine va_alen hx hb hK hP 2 0 rfl rfl (v := nI LS) rfl dX2_renew_31 ?_
  refine lv_iload_n hx hb dX2_renew_32 rfl (lv_at hl 2 rfl) ?_
  refine lv_icmp_ge (tgt := 62) hx hb dX2_renew_33 (by decide) (fun c_33 => ?_) (fun c_33 => (by exfalso; apply c_33; rw [kt_le]; omega))
  refine lv_aload_n hx hb dX2_renew_62 rfl (lv_at hl 0 rfl) ?_
  refine va_get (D := D) (ci := 2) (C := RX2) (T := TX2) (N := 4) hx hb hts iw_X2_renew_X2 hown hK hP 0 rfl rfl 0 (by decide) (hts (.fieldLink RX2 9 "KingTable$Links" "heads" "[I") (by decide +kernel)) (fun _ h9 => h9) rfl dX2_renew_63 ?_
  refine lv_iconst (v := (-1)) hx hb dX2_renew_66 (by decide) ?_
  refine kt_bv (wc := [(kh, .inl (cI, LH, .inl he))]) (wr := [(lk, .inr (2, [.ref kh, .ref ks, .ref kn, .int us])), (ks, .inl (cI, LS, .inl sr)), (kn, .inl (cI, LS, .inl ne))]) [1] [0, 2, 3] hP hD hS hA rfl rfl (by decide) (by decide) (by decide) (fun hPc hDc => va_runS (As := [.ref kh, .int (-1)]) (rest := []) ⟨hx, hb, hml, hown, hts⟩ (c_fill l D cI cZ cB H.size kh LH he (-1) (by omega)) (va_cwS 2 hts gX2_renew_J7_fill_53178 rfl rfl rfl (by decide +kernel) ⟨Nat.le_of_ble_eq_true rfl, Nat.le_of_ble_eq_true rfl⟩) (kt_preS hN hK hPc hDc) rfl rfl hl.1 rfl (lv_room (Nat.le_of_ble_eq_true rfl)) dX2_renew_67 ⟨Nat.le_of_ble_eq_true rfl, Nat.le_of_ble_eq_true rfl⟩) (fun u_ H locs hw_67 hP hD hS => ?_)
  have hP : va_P D vwCl [(lk, .inr (2, [.ref kh, .ref ks, .ref kn, .int us])), (kh, .inl (cI, LH, .inl (fun _ => (-1)))), (ks, .inl (cI, LS, .inl sr)), (kn, .inl (cI, LS, .inl ne))] H := hP.sub [0, 3, 1, 2] rfl
  have hD : va_D A [(lk, .inr (2, [.ref kh, .ref ks, .ref kn, .int us])), (kh, .inl (cI, LH, .inl (fun _ => (-1)))), (ks, .inl (cI, LS, .inl sr)), (kn, .inl (cI, LS, .inl ne))] := hD.sub [0, 3, 1, 2] (by decide) rfl
  refine lv_aload_n hx hb dX2_renew_70 rfl (lv_at hl 0 rfl) ?_
  refine lv_iconst (v := 0) hx hb dX2_renew_71 (by decide) ?_
  refine va_put (D := D) (ci := 2) (v := .int 0) (ty := .int) (C := RX2) (T := TX2) (N := 4) hx hb hts iw_X2_renew_X2 tyX2 tyX2_ok nmX2 hown hK hP hD hS 0 rfl rfl 3 (by decide) (hts (.fieldLink RX2 32 "KingTable$Links" "used" "I") (by decide +kernel)) (fun _ h9 => h9) rfl (by decide +kernel) rfl rfl (Nat.le_of_ble_eq_true rfl) dX2_renew_72 (fun H locs hP hD hS => ?_)
  have hP : va_P D vwCl [(lk, .inr (2, [.ref kh, .ref ks, .ref kn, .int 0])), (kh, .inl (cI, LH, .inl (fun _ => (-1)))), (ks, .inl (cI, LS, .inl sr)), (kn, .inl (cI, LS, .inl ne))] H := hP
  have hD : va_D A [(lk, .inr (2, [.ref kh, .ref ks, .ref kn, .int 0])), (kh, .inl (cI, LH, .inl (fun _ => (-1)))), (ks, .inl (cI, LS, .inl sr)), (kn, .inl (cI, LS, .inl ne))] := hD
  exact kt_rv (fun _ => (-1)) hx hb hr hlk hS dX2_renew_75 hP hD (by show (fun _ => (-1)) = fun _ => -1; rfl)

set_option maxHeartbeats 4000000 in
set_option maxRecDepth 100000 in
theorem c_X2_renew_01 (l : Launch) (D : va_G) (cI cZ cB : ClassId) (sz : Nat) (lk : Nat) (kh : Nat) (ks : Nat) (kn : Nat) (us : Int32) (LH : Nat) (LS : Nat) (he : Nat → Int32) (sr : Nat → Int32) (ne : Nat → Int32) (p1 : Int32) (p2 : Int32) (hlh : LH ≤ 10000) (hls : LS ≤ 118300) (hg1 : p1.toInt ≤ (LH : Int)) (hg2 : (LS : Int) < p2.toInt) (hq1 : p1.toInt ≤ 10000) (hq2 : p2.toInt ≤ 118300) : kt_Mv l yX2_renew wsX2_renew { frames := 2, cells := 2, slots := 2 * (kt_rf p2.toInt (LS : Int) 118300).toNat, locals := 36 } D (kt_ty cI cZ cB) [.ref lk, .int p1, .int p2] sz [(lk, .inr (2, [.ref kh, .ref ks, .ref kn, .int us])), (kh, .inl (cI, LH, .inl he)), (ks, .inl (cI, LS, .inl sr)), (kn, .inl (cI, LS, .inl ne))] (fun (u : Nat × Nat × Nat × (Nat → Int32)) => (u.2.2.1 : Int) = (kt_rf p2.toInt (LS : Int) 118300) ∧ u.2.2.2 = fun _ => -1) (fun (u : Nat × Nat × Nat × (Nat → Int32)) => [(lk, .inr (2, [.ref kh, .ref u.1, .ref u.2.1, .int 0])), (kh, .inl (cI, LH, .inl u.2.2.2)), (u.1, .inl (cI, u.2.2.1, .inl (fun _ => 0))), (u.2.1, .inl (cI, u.2.2.1, .inl (fun _ => 0)))]) 2 (2 * (kt_rf p2.toInt (LS : Int) 118300).toNat) := by
  refine kt_Mv.of (cc := cX2_renew) (maxL := 4) (ret := none) (by decide) rfl (Nat.le_of_ble_eq_true rfl) ?_
  intro p e s m below meth c A ls H hAt hP hD hS hl
  obtain ⟨hx, hb, hr, hml, hown, hts, hN, hK, hlk, hnm, hA⟩ := hAt
  have hl : lv_has ls 4 [(0, .ref lk), (1, .int p1), (2, .int p2)] := hl
  have hown : s.vm.findClass RX2 = some m.cls := hown
  have hLHi : (nI LH).toInt = (LH : Int) := kt_nI (by omega)
  have hLSi : (nI LS).toInt = (LS : Int) := kt_nI (by omega)
  have hrh := kt_rf_b p1.toInt (LH : Int) 10000
  have hrs := kt_rf_b p2.toInt (LS : Int) 118300
  refine lv_aload_n hx hb dX2_renew_0 rfl (lv_at hl 0 rfl) ?_
  refine va_get (D := D) (ci := 2) (C := RX2) (T := TX2) (N := 4) hx hb hts iw_X2_renew_X2 hown hK hP 0 rfl rfl 0 (by decide) (hts (.fieldLink RX2 9 "KingTable$Links" "heads" "[I") (by decide +kernel)) (fun _ h9 => h9) rfl dX2_renew_1 ?_
  refine va_alen hx hb hK hP 1 0 rfl rfl (v := nI LH) rfl dX2_renew_4 ?_
  refine lv_iload_n hx hb dX2_renew_5 rfl (lv_at hl 1 rfl) ?_
  refine lv_icmp_ge (tgt := 27) hx hb dX2_renew_6 (by decide) (fun c_6 => ?_) (fun c_6 => (by exfalso; apply c_6; rw [kt_le]; omega))
  refine lv_aload_n hx hb dX2_renew_27 rfl (lv_at hl 0 rfl) ?_
  refine va_get (D := D) (ci := 2) (C := RX2) (T := TX2) (N := 4) hx hb hts iw_X2_renew_X2 hown hK hP 0 rfl rfl 1 (by decide) (hts (.fieldLink RX2 15 "KingTable$Links" "sources" "[I") (by decide +kernel)) (fun _ h9 => h9) rfl dX2_renew_28 ?_
  refine va_alen hx hb hK hP 2 0 rfl rfl (v := nI LS) rfl dX2_renew_31 ?_
  refine lv_iload_n hx hb dX2_renew_32 rfl (lv_at hl 2 rfl) ?_
  refine lv_icmp_ge (tgt := 62) hx hb dX2_renew_33 (by decide) (fun c_33 => (by exfalso; rw [kt_le] at c_33; omega)) (fun c_33 => ?_)
  refine lv_iload_n hx hb dX2_renew_36 rfl (lv_at hl 2 rfl) ?_
  refine lv_aload_n hx hb dX2_renew_37 rfl (lv_at hl 0 rfl) ?_
  refine va_get (D := D) (ci := 2) (C := RX2) (T := TX2) (N := 4) hx hb hts iw_X2_renew_X2 hown hK hP 0 rfl rfl 1 (by decide) (hts (.fieldLink RX2 15 "KingTable$Links" "sources" "[I") (by decide +kernel)) (fun _ h9 => h9) rfl dX2_renew_38 ?_
  refine va_alen hx hb hK hP 2 0 rfl rfl (v := nI LS) rfl dX2_renew_41 ?_
  refine lv_ldc hx hb hown (hts (.constant RX2 25 (118300)) (by decide +kernel)) dX2_renew_42 ?_
  refine kt_pi (wc := []) [] hP hD hS hA rfl (by decide) (fun hPc hDc => va_runS (As := [.int p2, .int (nI LS), .int 118300]) (rest := []) ⟨hx, hb, hml, hown, hts⟩ (c_X2_roomFor l D cI cZ cB H.size p2 (nI LS) 118300 (by first | assumption | omega | rfl | decide)) (va_cwS 3 hts gX2_renew_X2_roomFor rfl rfl rfl (by decide +kernel) ⟨Nat.le_of_ble_eq_true rfl, Nat.le_of_ble_eq_true rfl⟩) (kt_preS hN hK hPc hDc) rfl rfl hl.1 rfl (lv_room (Nat.le_of_ble_eq_true rfl)) dX2_renew_44 ⟨by show 0 + 0 ≤ 2; omega, by show 0 + 0 ≤ 2 * (kt_rf p2.toInt (LS : Int) 118300).toNat; omega⟩) (fun r_44 _ H locs hw_44 hP hS => ?_)
  rw [hLSi] at hw_44
  have hr44 : r_44.toInt = kt_rf p2.toInt (LS : Int) 118300 := hw_44
  refine lv_istore_n (lv' := [(3, .int r_44), (0, .ref lk), (1, .int p1), (2, .int p2)]) hx hb dX2_renew_47 rfl hl (by decide) rfl (fun ls hl => ?_)
  refine lv_aload_n hx hb dX2_renew_48 rfl (lv_at hl 1 rfl) ?_
  refine lv_iload_n hx hb dX2_renew_49 rfl (lv_at hl 0 rfl) ?_
  refine kt_newa (atype := .int) (ty := .int) (cA := cI) hx hb (hts (.arrayClass .int) (by decide +kernel)) rfl hK hP hD hS hA 0 rfl (fun _ h => h) (N' := r_44.toNatClampNeg) (fun _ => rfl) (by rw [kt_lt, kt_c0]; omega) rfl (by show r_44.toInt.toNat * 4 ≤ 536870912; omega) (by show 0 + 1 ≤ 2; omega) (by show 0 + r_44.toInt.toNat ≤ 2 * (kt_rf p2.toInt (LS : Int) 118300).toNat; omega) dX2_renew_50 (fun q50 H hP hD hS => ?_)
  have hP : va_P D vwCl [(lk, .inr (2, [.ref kh, .ref ks, .ref kn, .int us])), (kh, .inl (cI, LH, .inl he)), (ks, .inl (cI, LS, .inl sr)), (kn, .inl (cI, LS, .inl ne)), (q50, .inl (cI, r_44.toNatClampNeg, .inl (fun _ => 0)))] H := hP
  have hD : va_D A [(lk, .inr (2, [.ref kh, .ref ks, .ref kn, .int us])), (kh, .inl (cI, LH, .inl he)), (ks, .inl (cI, LS, .inl sr)), (kn, .inl (cI, LS, .inl ne)), (q50, .inl (cI, r_44.toNatClampNeg, .inl (fun _ => 0)))] := hD
  refine va_put (D := D) (ci := 2) (v := .ref q50) (ty := .array .int) (C := RX2) (T := TX2) (N := 4) hx hb hts iw_X2_renew_X2 tyX2 tyX2_ok nmX2 hown hK hP hD hS 0 rfl rfl 1 (by decide) (hts (.fieldLink RX2 15 "KingTable$Links" "sources" "[I") (by decide +kernel)) (fun _ h9 => h9) rfl (by decide +kernel) rfl rfl (Nat.le_of_ble_eq_true rfl) dX2_renew_52 (fun H locs hP hD hS => ?_)
  have hP : va_P D vwCl [(lk, .inr (2, [.ref kh, .ref q50, .ref kn, .int us])), (kh, .inl (cI, LH, .inl he)), (ks, .inl (cI, LS, .inl sr)), (kn, .inl (cI, LS, .inl ne)), (q50, .inl (cI, r_44.toNatClampNeg, .inl (fun _ => 0)))] H := hP
  have hD : va_D A [(lk, .inr (2, [.ref kh, .ref q50, .ref kn, .int us])), (kh, .inl (cI, LH, .inl he)), (ks, .inl (cI, LS, .inl sr)), (kn, .inl (cI, LS, .inl ne)), (q50, .inl (cI, r_44.toNatClampNeg, .inl (fun _ => 0)))] := hD
  refine lv_aload_n hx hb dX2_renew_55 rfl (lv_at hl 1 rfl) ?_
  refine lv_iload_n hx hb dX2_renew_56 rfl (lv_at hl 0 rfl) ?_
  refine kt_newa (atype := .int) (ty := .int) (cA := cI) hx hb (hts (.arrayClass .int) (by decide +kernel)) rfl hK hP hD hS hA 0 rfl (fun _ h => h) (N' := r_44.toNatClampNeg) (fun _ => rfl) (by rw [kt_lt, kt_c0]; omega) rfl (by show r_44.toInt.toNat * 4 ≤ 536870912; omega) (by show 0 + 1 + 1 ≤ 2; omega) (by show 0 + r_44.toInt.toNat + r_44.toInt.toNat ≤ 2 * (kt_rf p2.toInt (LS : Int) 118300).toNat; omega) dX2_renew_57 (fun q57 H hP hD hS => ?_)
  have hP : va_P D vwCl [(lk, .inr (2, [.ref kh, .ref q50, .ref kn, .int us])), (kh, .inl (cI, LH, .inl he)), (ks, .inl (cI, LS, .inl sr)), (kn, .inl (cI, LS, .inl ne)), (q50, .inl (cI, r_44.toNatClampNeg, .inl (fun _ => 0))), (q57, .inl (cI, r_44.toNatClampNeg, .inl (fun _ => 0)))] H := hP
  have hD : va_D A [(lk, .inr (2, [.ref kh, .ref q50, .ref kn, .int us])), (kh, .inl (cI, LH, .inl he)), (ks, .inl (cI, LS, .inl sr)), (kn, .inl (cI, LS, .inl ne)), (q50, .inl (cI, r_44.toNatClampNeg, .inl (fun _ => 0))), (q57, .inl (cI, r_44.toNatClampNeg, .inl (fun _ => 0)))] := hD
  refine va_put (D := D) (ci := 2) (v := .ref q57) (ty := .array .int) (C := RX2) (T := TX2) (N := 4) hx hb hts iw_X2_renew_X2 tyX2 tyX2_ok nmX2 hown hK hP hD hS 0 rfl rfl 2 (by decide) (hts (.fieldLink RX2 18 "KingTable$Links" "nexts" "[I") (by decide +kernel)) (fun _ h9 => h9) rfl (by decide +kernel) rfl rfl (Nat.le_of_ble_eq_true rfl) dX2_renew_59 (fun H locs hP hD hS => ?_)
  have hP : va_P D vwCl [(lk, .inr (2, [.ref kh, .ref q50, .ref q57, .int us])), (kh, .inl (cI, LH, .inl he)), (ks, .inl (cI, LS, .inl sr)), (kn, .inl (cI, LS, .inl ne)), (q50, .inl (cI, r_44.toNatClampNeg, .inl (fun _ => 0))), (q57, .inl (cI, r_44.toNatClampNeg, .inl (fun _ => 0)))] H := hP
  have hD : va_D A [(lk, .inr (2, [.ref kh, .ref q50, .ref q57, .int us])), (kh, .inl (cI, LH, .inl he)), (ks, .inl (cI, LS, .inl sr)), (kn, .inl (cI, LS, .inl ne)), (q50, .inl (cI, r_44.toNatClampNeg, .inl (fun _ => 0))), (q57, .inl (cI, r_44.toNatClampNeg, .inl (fun _ => 0)))] := hD
  refine lv_aload_n hx hb dX2_renew_62 rfl (lv_at hl 1 rfl) ?_
  refine va_get (D := D) (ci := 2) (C := RX2) (T := TX2) (N := 4) hx hb hts iw_X2_renew_X2 hown hK hP 0 rfl rfl 0 (by decide) (hts (.fieldLink RX2 9 "KingTable$Links" "heads" "[I") (by decide +kernel)) (fun _ h9 => h9) rfl dX2_renew_63 ?_
  refine lv_iconst (v := (-1)) hx hb dX2_renew_66 (by decide) ?_
  refine kt_bv (wc := [(kh, .inl (cI, LH, .inl he))]) (wr := [(lk, .inr (2, [.ref kh, .ref q50, .ref q57, .int us])), (ks, .inl (cI, LS, .inl sr)), (kn, .inl (cI, LS, .inl ne)), (q50, .inl (cI, r_44.toNatClampNeg, .inl (fun _ => 0))), (q57, .inl (cI, r_44.toNatClampNeg, .inl (fun _ => 0)))]) [1] [0, 2, 3, 4, 5] hP hD hS hA rfl rfl (by decide) (by decide) (by decide) (fun hPc hDc => va_runS (As := [.ref kh, .int (-1)]) (rest := []) ⟨hx, hb, hml, hown, hts⟩ (c_fill l D cI cZ cB H.size kh LH he (-1) (by omega)) (va_cwS 2 hts gX2_renew_J7_fill_53178 rfl rfl rfl (by decide +kernel) ⟨Nat.le_of_ble_eq_true rfl, Nat.le_of_ble_eq_true rfl⟩) (kt_preS hN hK hPc hDc) rfl rfl hl.1 rfl (lv_room (Nat.le_of_ble_eq_true rfl)) dX2_renew_67 ⟨by show 0 + 1 + 1 + 0 ≤ 2; omega, by show 0 + r_44.toInt.toNat + r_44.toInt.toNat + 0 ≤ 2 * (kt_rf p2.toInt (LS : Int) 118300).toNat; omega⟩) (fun u_ H locs hw_67 hP hD hS => ?_)
  have hP : va_P D vwCl [(lk, .inr (2, [.ref kh, .ref q50, .ref q57, .int us])), (kh, .inl (cI, LH, .inl (fun _ => (-1)))), (ks, .inl (cI, LS, .inl sr)), (kn, .inl (cI, LS, .inl ne)), (q50, .inl (cI, r_44.toNatClampNeg, .inl (fun _ => 0))), (q57, .inl (cI, r_44.toNatClampNeg, .inl (fun _ => 0)))] H := hP.sub [0, 5, 1, 2, 3, 4] rfl
  have hD : va_D A [(lk, .inr (2, [.ref kh, .ref q50, .ref q57, .int us])), (kh, .inl (cI, LH, .inl (fun _ => (-1)))), (ks, .inl (cI, LS, .inl sr)), (kn, .inl (cI, LS, .inl ne)), (q50, .inl (cI, r_44.toNatClampNeg, .inl (fun _ => 0))), (q57, .inl (cI, r_44.toNatClampNeg, .inl (fun _ => 0)))] := hD.sub [0, 5, 1, 2, 3, 4] (by decide) rfl
  refine lv_aload_n hx hb dX2_renew_70 rfl (lv_at hl 1 rfl) ?_
  refine lv_iconst (v := 0) hx hb dX2_renew_71 (by decide) ?_
  refine va_put (D := D) (ci := 2) (v := .int 0) (ty := .int) (C := RX2) (T := TX2) (N := 4) hx hb hts iw_X2_renew_X2 tyX2 tyX2_ok nmX2 hown hK hP hD hS 0 rfl rfl 3 (by decide) (hts (.fieldLink RX2 32 "KingTable$Links" "used" "I") (by decide +kernel)) (fun _ h9 => h9) rfl (by decide +kernel) rfl rfl (Nat.le_of_ble_eq_true rfl) dX2_renew_72 (fun H locs hP hD hS => ?_)
  have hP : va_P D vwCl [(lk, .inr (2, [.ref kh, .ref q50, .ref q57, .int 0])), (kh, .inl (cI, LH, .inl (fun _ => (-1)))), (ks, .inl (cI, LS, .inl sr)), (kn, .inl (cI, LS, .inl ne)), (q50, .inl (cI, r_44.toNatClampNeg, .inl (fun _ => 0))), (q57, .inl (cI, r_44.toNatClampNeg, .inl (fun _ => 0)))] H := hP
  have hD : va_D A [(lk, .inr (2, [.ref kh, .ref q50, .ref q57, .int 0])), (kh, .inl (cI, LH, .inl (fun _ => (-1)))), (ks, .inl (cI, LS, .inl sr)), (kn, .inl (cI, LS, .inl ne)), (q50, .inl (cI, r_44.toNatClampNeg, .inl (fun _ => 0))), (q57, .inl (cI, r_44.toNatClampNeg, .inl (fun _ => 0)))] := hD
  refine W.widen (k := 2) (n := 2 * (kt_rf p2.toInt (LS : Int) 118300).toNat) (by show 0 + 1 + 1 ≤ 2; omega) (by show 0 + r_44.toInt.toNat + r_44.toInt.toNat ≤ 2 * (kt_rf p2.toInt (LS : Int) 118300).toNat; omega) ?_
  exact kt_rv (q50, q57, r_44.toNatClampNeg, fun _ => (-1)) hx hb hr hlk hS dX2_renew_75 (hP.sub [0, 1, 4, 5] rfl) (hD.sub [0, 1, 4, 5] (by decide) rfl) (by show (r_44.toNatClampNeg : Int) = (kt_rf p2.toInt (LS : Int) 118300) ∧ (fun _ => (-1)) = fun _ => -1; exact ⟨by show ((r_44.toInt.toNat : Nat) : Int) = _; omega, rfl⟩)

set_option maxHeartbeats 4000000 in
set_option maxRecDepth 100000 in
theorem c_X2_renew_10 (l : Launch) (D : va_G) (cI cZ cB : ClassId) (sz : Nat) (lk : Nat) (kh : Nat) (ks : Nat) (kn : Nat) (us : Int32) (LH : Nat) (LS : Nat) (he : Nat → Int32) (sr : Nat → Int32) (ne : Nat → Int32) (p1 : Int32) (p2 : Int32) (hlh : LH ≤ 10000) (hls : LS ≤ 118300) (hg1 : (LH : Int) < p1.toInt) (hg2 : p2.toInt ≤ (LS : Int)) (hq1 : p1.toInt ≤ 10000) (hq2 : p2.toInt ≤ 118300) : kt_Mv l yX2_renew wsX2_renew { frames := 2, cells := 1, slots := (kt_rf p1.toInt (LH : Int) 10000).toNat, locals := 36 } D (kt_ty cI cZ cB) [.ref lk, .int p1, .int p2] sz [(lk, .inr (2, [.ref kh, .ref ks, .ref kn, .int us])), (kh, .inl (cI, LH, .inl he)), (ks, .inl (cI, LS, .inl sr)), (kn, .inl (cI, LS, .inl ne))] (fun (u : Nat × Nat × (Nat → Int32)) => (u.2.1 : Int) = (kt_rf p1.toInt (LH : Int) 10000) ∧ u.2.2 = fun _ => -1) (fun (u : Nat × Nat × (Nat → Int32)) => [(lk, .inr (2, [.ref u.1, .ref ks, .ref kn, .int 0])), (u.1, .inl (cI, u.2.1, .inl u.2.2)), (ks, .inl (cI, LS, .inl sr)), (kn, .inl (cI, LS, .inl ne))]) 1 ((kt_rf p1.toInt (LH : Int) 10000).toNat) := by
  refine kt_Mv.of (cc := cX2_renew) (maxL := 4) (ret := none) (by decide) rfl (Nat.le_of_ble_eq_true rfl) ?_
  intro p e s m below meth c A ls H hAt hP hD hS hl
  obtain ⟨hx, hb, hr, hml, hown, hts, hN, hK, hlk, hnm, hA⟩ := hAt
  have hl : lv_has ls 4 [(0, .ref lk), (1, .int p1), (2, .int p2)] := hl
  have hown : s.vm.findClass RX2 = some m.cls := hown
  have hLHi : (nI LH).toInt = (LH : Int) := kt_nI (by omega)
  have hLSi : (nI LS).toInt = (LS : Int) := kt_nI (by omega)
  have hrh := kt_rf_b p1.toInt (LH : Int) 10000
  have hrs := kt_rf_b p2.toInt (LS : Int) 118300
  refine lv_aload_n hx hb dX2_renew_0 rfl (lv_at hl 0 rfl) ?_
  refine va_get (D := D) (ci := 2) (C := RX2) (T := TX2) (N := 4) hx hb hts iw_X2_renew_X2 hown hK hP 0 rfl rfl 0 (by decide) (hts (.fieldLink RX2 9 "KingTable$Links" "heads" "[I") (by decide +kernel)) (fun _ h9 => h9) rfl dX2_renew_1 ?_
  refine va_alen hx hb hK hP 1 0 rfl rfl (v := nI LH) rfl dX2_renew_4 ?_
  refine lv_iload_n hx hb dX2_renew_5 rfl (lv_at hl 1 rfl) ?_
  refine lv_icmp_ge (tgt := 27) hx hb dX2_renew_6 (by decide) (fun c_6 => (by exfalso; rw [kt_le] at c_6; omega)) (fun c_6 => ?_)
  refine lv_aload_n hx hb dX2_renew_9 rfl (lv_at hl 0 rfl) ?_
  refine lv_iload_n hx hb dX2_renew_10 rfl (lv_at hl 1 rfl) ?_
  refine lv_aload_n hx hb dX2_renew_11 rfl (lv_at hl 0 rfl) ?_
  refine va_get (D := D) (ci := 2) (C := RX2) (T := TX2) (N := 4) hx hb hts iw_X2_renew_X2 hown hK hP 0 rfl rfl 0 (by decide) (hts (.fieldLink RX2 9 "KingTable$Links" "heads" "[I") (by decide +kernel)) (fun _ h9 => h9) rfl dX2_renew_12 ?_
  refine va_alen hx hb hK hP 1 0 rfl rfl (v := nI LH) rfl dX2_renew_15 ?_
  refine lv_sipush (v := 10000) hx hb dX2_renew_16 (by decide) ?_
  refine kt_pi (wc := []) [] hP hD hS hA rfl (by decide) (fun hPc hDc => va_runS (As := [.int p1, .int (nI LH), .int 10000]) (rest := [.ref lk]) ⟨hx, hb, hml, hown, hts⟩ (c_X2_roomFor l D cI cZ cB H.size p1 (nI LH) 10000 (by first | assumption | omega | rfl | decide)) (va_cwS 3 hts gX2_renew_X2_roomFor rfl rfl rfl (by decide +kernel) ⟨Nat.le_of_ble_eq_true rfl, Nat.le_of_ble_eq_true rfl⟩) (kt_preS hN hK hPc hDc) rfl rfl hl.1 rfl (lv_room (Nat.le_of_ble_eq_true rfl)) dX2_renew_19 ⟨by show 0 + 0 ≤ 1; omega, by show 0 + 0 ≤ (kt_rf p1.toInt (LH : Int) 10000).toNat; omega⟩) (fun r_19 _ H locs hw_19 hP hS => ?_)
  rw [hLHi] at hw_19
  have hr19 : r_19.toInt = kt_rf p1.toInt (LH : Int) 10000 := hw_19
  refine kt_newa (atype := .int) (ty := .int) (cA := cI) hx hb (hts (.arrayClass .int) (by decide +kernel)) rfl hK hP hD hS hA 0 rfl (fun _ h => h) (N' := r_19.toNatClampNeg) (fun _ => rfl) (by rw [kt_lt, kt_c0]; omega) rfl (by show r_19.toInt.toNat * 4 ≤ 536870912; omega) (by show 0 + 1 ≤ 1; omega) (by show 0 + r_19.toInt.toNat ≤ (kt_rf p1.toInt (LH : Int) 10000).toNat; omega) dX2_renew_22 (fun q22 H hP hD hS => ?_)
  have hP : va_P D vwCl [(lk, .inr (2, [.ref kh, .ref ks, .ref kn, .int us])), (kh, .inl (cI, LH, .inl he)), (ks, .inl (cI, LS, .inl sr)), (kn, .inl (cI, LS, .inl ne)), (q22, .inl (cI, r_19.toNatClampNeg, .inl (fun _ => 0)))] H := hP
  have hD : va_D A [(lk, .inr (2, [.ref kh, .ref ks, .ref kn, .int us])), (kh, .inl (cI, LH, .inl he)), (ks, .inl (cI, LS, .inl sr)), (kn, .inl (cI, LS, .inl ne)), (q22, .inl (cI, r_19.toNatClampNeg, .inl (fun _ => 0)))] := hD
  refine va_put (D := D) (ci := 2) (v := .ref q22) (ty := .array .int) (C := RX2) (T := TX2) (N := 4) hx hb hts iw_X2_renew_X2 tyX2 tyX2_ok nmX2 hown hK hP hD hS 0 rfl rfl 0 (by decide) (hts (.fieldLink RX2 9 "KingTable$Links" "heads" "[I") (by decide +kernel)) (fun _ h9 => h9) rfl (by decide +kernel) rfl rfl (Nat.le_of_ble_eq_true rfl) dX2_renew_24 (fun H locs hP hD hS => ?_)
  have hP : va_P D vwCl [(lk, .inr (2, [.ref q22, .ref ks, .ref kn, .int us])), (kh, .inl (cI, LH, .inl he)), (ks, .inl (cI, LS, .inl sr)), (kn, .inl (cI, LS, .inl ne)), (q22, .inl (cI, r_19.toNatClampNeg, .inl (fun _ => 0)))] H := hP
  have hD : va_D A [(lk, .inr (2, [.ref q22, .ref ks, .ref kn, .int us])), (kh, .inl (cI, LH, .inl he)), (ks, .inl (cI, LS, .inl sr)), (kn, .inl (cI, LS, .inl ne)), (q22, .inl (cI, r_19.toNatClampNeg, .inl (fun _ => 0)))] := hD
  refine lv_aload_n hx hb dX2_renew_27 rfl (lv_at hl 0 rfl) ?_
  refine va_get (D := D) (ci := 2) (C := RX2) (T := TX2) (N := 4) hx hb hts iw_X2_renew_X2 hown hK hP 0 rfl rfl 1 (by decide) (hts (.fieldLink RX2 15 "KingTable$Links" "sources" "[I") (by decide +kernel)) (fun _ h9 => h9) rfl dX2_renew_28 ?_
  refine va_alen hx hb hK hP 2 0 rfl rfl (v := nI LS) rfl dX2_renew_31 ?_
  refine lv_iload_n hx hb dX2_renew_32 rfl (lv_at hl 2 rfl) ?_
  refine lv_icmp_ge (tgt := 62) hx hb dX2_renew_33 (by decide) (fun c_33 => ?_) (fun c_33 => (by exfalso; apply c_33; rw [kt_le]; omega))
  refine lv_aload_n hx hb dX2_renew_62 rfl (lv_at hl 0 rfl) ?_
  refine va_get (D := D) (ci := 2) (C := RX2) (T := TX2) (N := 4) hx hb hts iw_X2_renew_X2 hown hK hP 0 rfl rfl 0 (by decide) (hts (.fieldLink RX2 9 "KingTable$Links" "heads" "[I") (by decide +kernel)) (fun _ h9 => h9) rfl dX2_renew_63 ?_
  refine lv_iconst (v := (-1)) hx hb dX2_renew_66 (by decide) ?_
  refine kt_bv (wc := [(q22, .inl (cI, r_19.toNatClampNeg, .inl (fun _ => 0)))]) (wr := [(lk, .inr (2, [.ref q22, .ref ks, .ref kn, .int us])), (kh, .inl (cI, LH, .inl he)), (ks, .inl (cI, LS, .inl sr)), (kn, .inl (cI, LS, .inl ne))]) [4] [0, 1, 2, 3] hP hD hS hA rfl rfl (by decide) (by decide) (by decide) (fun hPc hDc => va_runS (As := [.ref q22, .int (-1)]) (rest := []) ⟨hx, hb, hml, hown, hts⟩ (c_fill l D cI cZ cB H.size q22 r_19.toNatClampNeg (fun _ => 0) (-1) (by show r_19.toInt.toNat < 1000000; omega)) (va_cwS 2 hts gX2_renew_J7_fill_53178 rfl rfl rfl (by decide +kernel) ⟨Nat.le_of_ble_eq_true rfl, Nat.le_of_ble_eq_true rfl⟩) (kt_preS hN hK hPc hDc) rfl rfl hl.1 rfl (lv_room (Nat.le_of_ble_eq_true rfl)) dX2_renew_67 ⟨by show 0 + 1 + 0 ≤ 1; omega, by show 0 + r_19.toInt.toNat + 0 ≤ (kt_rf p1.toInt (LH : Int) 10000).toNat; omega⟩) (fun u_ H locs hw_67 hP hD hS => ?_)
  have hP : va_P D vwCl [(lk, .inr (2, [.ref q22, .ref ks, .ref kn, .int us])), (kh, .inl (cI, LH, .inl he)), (ks, .inl (cI, LS, .inl sr)), (kn, .inl (cI, LS, .inl ne)), (q22, .inl (cI, r_19.toNatClampNeg, .inl (fun _ => (-1))))] H := hP.sub [0, 1, 2, 3, 4] rfl
  have hD : va_D A [(lk, .inr (2, [.ref q22, .ref ks, .ref kn, .int us])), (kh, .inl (cI, LH, .inl he)), (ks, .inl (cI, LS, .inl sr)), (kn, .inl (cI, LS, .inl ne)), (q22, .inl (cI, r_19.toNatClampNeg, .inl (fun _ => (-1))))] := hD.sub [0, 1, 2, 3, 4] (by decide) rfl
  refine lv_aload_n hx hb dX2_renew_70 rfl (lv_at hl 0 rfl) ?_
  refine lv_iconst (v := 0) hx hb dX2_renew_71 (by decide) ?_
  refine va_put (D := D) (ci := 2) (v := .int 0) (ty := .int) (C := RX2) (T := TX2) (N := 4) hx hb hts iw_X2_renew_X2 tyX2 tyX2_ok nmX2 hown hK hP hD hS 0 rfl rfl 3 (by decide) (hts (.fieldLink RX2 32 "KingTable$Links" "used" "I") (by decide +kernel)) (fun _ h9 => h9) rfl (by decide +kernel) rfl rfl (Nat.le_of_ble_eq_true rfl) dX2_renew_72 (fun H locs hP hD hS => ?_)
  have hP : va_P D vwCl [(lk, .inr (2, [.ref q22, .ref ks, .ref kn, .int 0])), (kh, .inl (cI, LH, .inl he)), (ks, .inl (cI, LS, .inl sr)), (kn, .inl (cI, LS, .inl ne)), (q22, .inl (cI, r_19.toNatClampNeg, .inl (fun _ => (-1))))] H := hP
  have hD : va_D A [(lk, .inr (2, [.ref q22, .ref ks, .ref kn, .int 0])), (kh, .inl (cI, LH, .inl he)), (ks, .inl (cI, LS, .inl sr)), (kn, .inl (cI, LS, .inl ne)), (q22, .inl (cI, r_19.toNatClampNeg, .inl (fun _ => (-1))))] := hD
  refine W.widen (k := 1) (n := (kt_rf p1.toInt (LH : Int) 10000).toNat) (by show 0 + 1 ≤ 1; omega) (by show 0 + r_19.toInt.toNat ≤ (kt_rf p1.toInt (LH : Int) 10000).toNat; omega) ?_
  exact kt_rv (q22, r_19.toNatClampNeg, fun _ => (-1)) hx hb hr hlk hS dX2_renew_75 (hP.sub [0, 4, 2, 3] rfl) (hD.sub [0, 4, 2, 3] (by decide) rfl) (by show (r_19.toNatClampNeg : Int) = (kt_rf p1.toInt (LH : Int) 10000) ∧ (fun _ => (-1)) = fun _ => -1; exact ⟨by show ((r_19.toInt.toNat : Nat) : Int) = _; omega, rfl⟩)

set_option maxHeartbeats 4000000 in
set_option maxRecDepth 100000 in
theorem c_X2_renew_11 (l : Launch) (D : va_G) (cI cZ cB : ClassId) (sz : Nat) (lk : Nat) (kh : Nat) (ks : Nat) (kn : Nat) (us : Int32) (LH : Nat) (LS : Nat) (he : Nat → Int32) (sr : Nat → Int32) (ne : Nat → Int32) (p1 : Int32) (p2 : Int32) (hlh : LH ≤ 10000) (hls : LS ≤ 118300) (hg1 : (LH : Int) < p1.toInt) (hg2 : (LS : Int) < p2.toInt) (hq1 : p1.toInt ≤ 10000) (hq2 : p2.toInt ≤ 118300) : kt_Mv l yX2_renew wsX2_renew { frames := 2, cells := 3, slots := (kt_rf p1.toInt (LH : Int) 10000).toNat + 2 * (kt_rf p2.toInt (LS : Int) 118300).toNat, locals := 36 } D (kt_ty cI cZ cB) [.ref lk, .int p1, .int p2] sz [(lk, .inr (2, [.ref kh, .ref ks, .ref kn, .int us])), (kh, .inl (cI, LH, .inl he)), (ks, .inl (cI, LS, .inl sr)), (kn, .inl (cI, LS, .inl ne))] (fun (u : Nat × Nat × Nat × Nat × Nat × (Nat → Int32)) => (u.2.1 : Int) = (kt_rf p1.toInt (LH : Int) 10000) ∧ (u.2.2.2.2.1 : Int) = (kt_rf p2.toInt (LS : Int) 118300) ∧ u.2.2.2.2.2 = fun _ => -1) (fun (u : Nat × Nat × Nat × Nat × Nat × (Nat → Int32)) => [(lk, .inr (2, [.ref u.1, .ref u.2.2.1, .ref u.2.2.2.1, .int 0])), (u.1, .inl (cI, u.2.1, .inl u.2.2.2.2.2)), (u.2.2.1, .inl (cI, u.2.2.2.2.1, .inl (fun _ => 0))), (u.2.2.2.1, .inl (cI, u.2.2.2.2.1, .inl (fun _ => 0)))]) 3 ((kt_rf p1.toInt (LH : Int) 10000).toNat + 2 * (kt_rf p2.toInt (LS : Int) 118300).toNat) := by
  refine kt_Mv.of (cc := cX2_renew) (maxL := 4) (ret := none) (by decide) rfl (Nat.le_of_ble_eq_true rfl) ?_
  intro p e s m below meth c A ls H hAt hP hD hS hl
  obtain ⟨hx, hb, hr, hml, hown, hts, hN, hK, hlk, hnm, hA⟩ := hAt
  have hl : lv_has ls 4 [(0, .ref lk), (1, .int p1), (2, .int p2)] := hl
  have hown : s.vm.findClass RX2 = some m.cls := hown
  have hLHi : (nI LH).toInt = (LH : Int) := kt_nI (by omega)
  have hLSi : (nI LS).toInt = (LS : Int) := kt_nI (by omega)
  have hrh := kt_rf_b p1.toInt (LH : Int) 10000
  have hrs := kt_rf_b p2.toInt (LS : Int) 118300
  refine lv_aload_n hx hb dX2_renew_0 rfl (lv_at hl 0 rfl) ?_
  refine va_get (D := D) (ci := 2) (C := RX2) (T := TX2) (N := 4) hx hb hts iw_X2_renew_X2 hown hK hP 0 rfl rfl 0 (by decide) (hts (.fieldLink RX2 9 "KingTable$Links" "heads" "[I") (by decide +kernel)) (fun _ h9 => h9) rfl dX2_renew_1 ?_
  refine va_alen hx hb hK hP 1 0 rfl rfl (v := nI LH) rfl dX2_renew_4 ?_
  refine lv_iload_n hx hb dX2_renew_5 rfl (lv_at hl 1 rfl) ?_
  refine lv_icmp_ge (tgt := 27) hx hb dX2_renew_6 (by decide) (fun c_6 => (by exfalso; rw [kt_le] at c_6; omega)) (fun c_6 => ?_)
  refine lv_aload_n hx hb dX2_renew_9 rfl (lv_at hl 0 rfl) ?_
  refine lv_iload_n hx hb dX2_renew_10 rfl (lv_at hl 1 rfl) ?_
  refine lv_aload_n hx hb dX2_renew_11 rfl (lv_at hl 0 rfl) ?_
  refine va_get (D := D) (ci := 2) (C := RX2) (T := TX2) (N := 4) hx hb hts iw_X2_renew_X2 hown hK hP 0 rfl rfl 0 (by decide) (hts (.fieldLink RX2 9 "KingTable$Links" "heads" "[I") (by decide +kernel)) (fun _ h9 => h9) rfl dX2_renew_12 ?_
  refine va_alen hx hb hK hP 1 0 rfl rfl (v := nI LH) rfl dX2_renew_15 ?_
  refine lv_sipush (v := 10000) hx hb dX2_renew_16 (by decide) ?_
  refine kt_pi (wc := []) [] hP hD hS hA rfl (by decide) (fun hPc hDc => va_runS (As := [.int p1, .int (nI LH), .int 10000]) (rest := [.ref lk]) ⟨hx, hb, hml, hown, hts⟩ (c_X2_roomFor l D cI cZ cB H.size p1 (nI LH) 10000 (by first | assumption | omega | rfl | decide)) (va_cwS 3 hts gX2_renew_X2_roomFor rfl rfl rfl (by decide +kernel) ⟨Nat.le_of_ble_eq_true rfl, Nat.le_of_ble_eq_true rfl⟩) (kt_preS hN hK hPc hDc) rfl rfl hl.1 rfl (lv_room (Nat.le_of_ble_eq_true rfl)) dX2_renew_19 ⟨by show 0 + 0 ≤ 3; omega, by show 0 + 0 ≤ (kt_rf p1.toInt (LH : Int) 10000).toNat + 2 * (kt_rf p2.toInt (LS : Int) 118300).toNat; omega⟩) (fun r_19 _ H locs hw_19 hP hS => ?_)
  rw [hLHi] at hw_19
  have hr19 : r_19.toInt = kt_rf p1.toInt (LH : Int) 10000 := hw_19
  refine kt_newa (atype := .int) (ty := .int) (cA := cI) hx hb (hts (.arrayClass .int) (by decide +kernel)) rfl hK hP hD hS hA 0 rfl (fun _ h => h) (N' := r_19.toNatClampNeg) (fun _ => rfl) (by rw [kt_lt, kt_c0]; omega) rfl (by show r_19.toInt.toNat * 4 ≤ 536870912; omega) (by show 0 + 1 ≤ 3; omega) (by show 0 + r_19.toInt.toNat ≤ (kt_rf p1.toInt (LH : Int) 10000).toNat + 2 * (kt_rf p2.toInt (LS : Int) 118300).toNat; omega) dX2_renew_22 (fun q22 H hP hD hS => ?_)
  have hP : va_P D vwCl [(lk, .inr (2, [.ref kh, .ref ks, .ref kn, .int us])), (kh, .inl (cI, LH, .inl he)), (ks, .inl (cI, LS, .inl sr)), (kn, .inl (cI, LS, .inl ne)), (q22, .inl (cI, r_19.toNatClampNeg, .inl (fun _ => 0)))] H := hP
  have hD : va_D A [(lk, .inr (2, [.ref kh, .ref ks, .ref kn, .int us])), (kh, .inl (cI, LH, .inl he)), (ks, .inl (cI, LS, .inl sr)), (kn, .inl (cI, LS, .inl ne)), (q22, .inl (cI, r_19.toNatClampNeg, .inl (fun _ => 0)))] := hD
  refine va_put (D := D) (ci := 2) (v := .ref q22) (ty := .array .int) (C := RX2) (T := TX2) (N := 4) hx hb hts iw_X2_renew_X2 tyX2 tyX2_ok nmX2 hown hK hP hD hS 0 rfl rfl 0 (by decide) (hts (.fieldLink RX2 9 "KingTable$Links" "heads" "[I") (by decide +kernel)) (fun _ h9 => h9) rfl (by decide +kernel) rfl rfl (Nat.le_of_ble_eq_true rfl) dX2_renew_24 (fun H locs hP hD hS => ?_)
  have hP : va_P D vwCl [(lk, .inr (2, [.ref q22, .ref ks, .ref kn, .int us])), (kh, .inl (cI, LH, .inl he)), (ks, .inl (cI, LS, .inl sr)), (kn, .inl (cI, LS, .inl ne)), (q22, .inl (cI, r_19.toNatClampNeg, .inl (fun _ => 0)))] H := hP
  have hD : va_D A [(lk, .inr (2, [.ref q22, .ref ks, .ref kn, .int us])), (kh, .inl (cI, LH, .inl he)), (ks, .inl (cI, LS, .inl sr)), (kn, .inl (cI, LS, .inl ne)), (q22, .inl (cI, r_19.toNatClampNeg, .inl (fun _ => 0)))] := hD
  refine lv_aload_n hx hb dX2_renew_27 rfl (lv_at hl 0 rfl) ?_
  refine va_get (D := D) (ci := 2) (C := RX2) (T := TX2) (N := 4) hx hb hts iw_X2_renew_X2 hown hK hP 0 rfl rfl 1 (by decide) (hts (.fieldLink RX2 15 "KingTable$Links" "sources" "[I") (by decide +kernel)) (fun _ h9 => h9) rfl dX2_renew_28 ?_
  refine va_alen hx hb hK hP 2 0 rfl rfl (v := nI LS) rfl dX2_renew_31 ?_
  refine lv_iload_n hx hb dX2_renew_32 rfl (lv_at hl 2 rfl) ?_
  refine lv_icmp_ge (tgt := 62) hx hb dX2_renew_33 (by decide) (fun c_33 => (by exfalso; rw [kt_le] at c_33; omega)) (fun c_33 => ?_)
  refine lv_iload_n hx hb dX2_renew_36 rfl (lv_at hl 2 rfl) ?_
  refine lv_aload_n hx hb dX2_renew_37 rfl (lv_at hl 0 rfl) ?_
  refine va_get (D := D) (ci := 2) (C := RX2) (T := TX2) (N := 4) hx hb hts iw_X2_renew_X2 hown hK hP 0 rfl rfl 1 (by decide) (hts (.fieldLink RX2 15 "KingTable$Links" "sources" "[I") (by decide +kernel)) (fun _ h9 => h9) rfl dX2_renew_38 ?_
  refine va_alen hx hb hK hP 2 0 rfl rfl (v := nI LS) rfl dX2_renew_41 ?_
  refine lv_ldc hx hb hown (hts (.constant RX2 25 (118300)) (by decide +kernel)) dX2_renew_42 ?_
  refine kt_pi (wc := []) [] hP hD hS hA rfl (by decide) (fun hPc hDc => va_runS (As := [.int p2, .int (nI LS), .int 118300]) (rest := []) ⟨hx, hb, hml, hown, hts⟩ (c_X2_roomFor l D cI cZ cB H.size p2 (nI LS) 118300 (by first | assumption | omega | rfl | decide)) (va_cwS 3 hts gX2_renew_X2_roomFor rfl rfl rfl (by decide +kernel) ⟨Nat.le_of_ble_eq_true rfl, Nat.le_of_ble_eq_true rfl⟩) (kt_preS hN hK hPc hDc) rfl rfl hl.1 rfl (lv_room (Nat.le_of_ble_eq_true rfl)) dX2_renew_44 ⟨by show 0 + 1 + 0 ≤ 3; omega, by show 0 + r_19.toInt.toNat + 0 ≤ (kt_rf p1.toInt (LH : Int) 10000).toNat + 2 * (kt_rf p2.toInt (LS : Int) 118300).toNat; omega⟩) (fun r_44 _ H locs hw_44 hP hS => ?_)
  rw [hLSi] at hw_44
  have hr44 : r_44.toInt = kt_rf p2.toInt (LS : Int) 118300 := hw_44
  refine lv_istore_n (lv' := [(3, .int r_44), (0, .ref lk), (1, .int p1), (2, .int p2)]) hx hb dX2_renew_47 rfl hl (by decide) rfl (fun ls hl => ?_)
  refine lv_aload_n hx hb dX2_renew_48 rfl (lv_at hl 1 rfl) ?_
  refine lv_iload_n hx hb dX2_renew_49 rfl (lv_at hl 0 rfl) ?_
  refine kt_newa (atype := .int) (ty := .int) (cA := cI) hx hb (hts (.arrayClass .int) (by decide +kernel)) rfl hK hP hD hS hA 0 rfl (fun _ h => h) (N' := r_44.toNatClampNeg) (fun _ => rfl) (by rw [kt_lt, kt_c0]; omega) rfl (by show r_44.toInt.toNat * 4 ≤ 536870912; omega) (by show 0 + 1 + 1 ≤ 3; omega) (by show 0 + r_19.toInt.toNat + r_44.toInt.toNat ≤ (kt_rf p1.toInt (LH : Int) 10000).toNat + 2 * (kt_rf p2.toInt (LS : Int) 118300).toNat; omega) dX2_renew_50 (fun q50 H hP hD hS => ?_)
  have hP : va_P D vwCl [(lk, .inr (2, [.ref q22, .ref ks, .ref kn, .int us])), (kh, .inl (cI, LH, .inl he)), (ks, .inl (cI, LS, .inl sr)), (kn, .inl (cI, LS, .inl ne)), (q22, .inl (cI, r_19.toNatClampNeg, .inl (fun _ => 0))), (q50, .inl (cI, r_44.toNatClampNeg, .inl (fun _ => 0)))] H := hP
  have hD : va_D A [(lk, .inr (2, [.ref q22, .ref ks, .ref kn, .int us])), (kh, .inl (cI, LH, .inl he)), (ks, .inl (cI, LS, .inl sr)), (kn, .inl (cI, LS, .inl ne)), (q22, .inl (cI, r_19.toNatClampNeg, .inl (fun _ => 0))), (q50, .inl (cI, r_44.toNatClampNeg, .inl (fun _ => 0)))] := hD
  refine va_put (D := D) (ci := 2) (v := .ref q50) (ty := .array .int) (C := RX2) (T := TX2) (N := 4) hx hb hts iw_X2_renew_X2 tyX2 tyX2_ok nmX2 hown hK hP hD hS 0 rfl rfl 1 (by decide) (hts (.fieldLink RX2 15 "KingTable$Links" "sources" "[I") (by decide +kernel)) (fun _ h9 => h9) rfl (by decide +kernel) rfl rfl (Nat.le_of_ble_eq_true rfl) dX2_renew_52 (fun H locs hP hD hS => ?_)
  have hP : va_P D vwCl [(lk, .inr (2, [.ref q22, .ref q50, .ref kn, .int us])), (kh, .inl (cI, LH, .inl he)), (ks, .inl (cI, LS, .inl sr)), (kn, .inl (cI, LS, .inl ne)), (q22, .inl (cI, r_19.toNatClampNeg, .inl (fun _ => 0))), (q50, .inl (cI, r_44.toNatClampNeg, .inl (fun _ => 0)))] H := hP
  have hD : va_D A [(lk, .inr (2, [.ref q22, .ref q50, .ref kn, .int us])), (kh, .inl (cI, LH, .inl he)), (ks, .inl (cI, LS, .inl sr)), (kn, .inl (cI, LS, .inl ne)), (q22, .inl (cI, r_19.toNatClampNeg, .inl (fun _ => 0))), (q50, .inl (cI, r_44.toNatClampNeg, .inl (fun _ => 0)))] := hD
  refine lv_aload_n hx hb dX2_renew_55 rfl (lv_at hl 1 rfl) ?_
  refine lv_iload_n hx hb dX2_renew_56 rfl (lv_at hl 0 rfl) ?_
  refine kt_newa (atype := .int) (ty := .int) (cA := cI) hx hb (hts (.arrayClass .int) (by decide +kernel)) rfl hK hP hD hS hA 0 rfl (fun _ h => h) (N' := r_44.toNatClampNeg) (fun _ => rfl) (by rw [kt_lt, kt_c0]; omega) rfl (by show r_44.toInt.toNat * 4 ≤ 536870912; omega) (by show 0 + 1 + 1 + 1 ≤ 3; omega) (by show 0 + r_19.toInt.toNat + r_44.toInt.toNat + r_44.toInt.toNat ≤ (kt_rf p1.toInt (LH : Int) 10000).toNat + 2 * (kt_rf p2.toInt (LS : Int) 118300).toNat; omega) dX2_renew_57 (fun q57 H hP hD hS => ?_)
  have hP : va_P D vwCl [(lk, .inr (2, [.ref q22, .ref q50, .ref kn, .int us])), (kh, .inl (cI, LH, .inl he)), (ks, .inl (cI, LS, .inl sr)), (kn, .inl (cI, LS, .inl ne)), (q22, .inl (cI, r_19.toNatClampNeg, .inl (fun _ => 0))), (q50, .inl (cI, r_44.toNatClampNeg, .inl (fun _ => 0))), (q57, .inl (cI, r_44.toNatClampNeg, .inl (fun _ => 0)))] H := hP
  have hD : va_D A [(lk, .inr (2, [.ref q22, .ref q50, .ref kn, .int us])), (kh, .inl (cI, LH, .inl he)), (ks, .inl (cI, LS, .inl sr)), (kn, .inl (cI, LS, .inl ne)), (q22, .inl (cI, r_19.toNatClampNeg, .inl (fun _ => 0))), (q50, .inl (cI, r_44.toNatClampNeg, .inl (fun _ => 0))), (q57, .inl (cI, r_44.toNatClampNeg, .inl (fun _ => 0)))] := hD
  refine va_put (D := D) (ci := 2) (v := .ref q57) (ty := .array .int) (C := RX2) (T := TX2) (N := 4) hx hb hts iw_X2_renew_X2 tyX2 tyX2_ok nmX2 hown hK hP hD hS 0 rfl rfl 2 (by decide) (hts (.fieldLink RX2 18 "KingTable$Links" "nexts" "[I") (by decide +kernel)) (fun _ h9 => h9) rfl (by decide +kernel) rfl rfl (Nat.le_of_ble_eq_true rfl) dX2_renew_59 (fun H locs hP hD hS => ?_)
  have hP : va_P D vwCl [(lk, .inr (2, [.ref q22, .ref q50, .ref q57, .int us])), (kh, .inl (cI, LH, .inl he)), (ks, .inl (cI, LS, .inl sr)), (kn, .inl (cI, LS, .inl ne)), (q22, .inl (cI, r_19.toNatClampNeg, .inl (fun _ => 0))), (q50, .inl (cI, r_44.toNatClampNeg, .inl (fun _ => 0))), (q57, .inl (cI, r_44.toNatClampNeg, .inl (fun _ => 0)))] H := hP
  have hD : va_D A [(lk, .inr (2, [.ref q22, .ref q50, .ref q57, .int us])), (kh, .inl (cI, LH, .inl he)), (ks, .inl (cI, LS, .inl sr)), (kn, .inl (cI, LS, .inl ne)), (q22, .inl (cI, r_19.toNatClampNeg, .inl (fun _ => 0))), (q50, .inl (cI, r_44.toNatClampNeg, .inl (fun _ => 0))), (q57, .inl (cI, r_44.toNatClampNeg, .inl (fun _ => 0)))] := hD
  refine lv_aload_n hx hb dX2_renew_62 rfl (lv_at hl 1 rfl) ?_
  refine va_get (D := D) (ci := 2) (C := RX2) (T := TX2) (N := 4) hx hb hts iw_X2_renew_X2 hown hK hP 0 rfl rfl 0 (by decide) (hts (.fieldLink RX2 9 "KingTable$Links" "heads" "[I") (by decide +kernel)) (fun _ h9 => h9) rfl dX2_renew_63 ?_
  refine lv_iconst (v := (-1)) hx hb dX2_renew_66 (by decide) ?_
  refine kt_bv (wc := [(q22, .inl (cI, r_19.toNatClampNeg, .inl (fun _ => 0)))]) (wr := [(lk, .inr (2, [.ref q22, .ref q50, .ref q57, .int us])), (kh, .inl (cI, LH, .inl he)), (ks, .inl (cI, LS, .inl sr)), (kn, .inl (cI, LS, .inl ne)), (q50, .inl (cI, r_44.toNatClampNeg, .inl (fun _ => 0))), (q57, .inl (cI, r_44.toNatClampNeg, .inl (fun _ => 0)))]) [4] [0, 1, 2, 3, 5, 6] hP hD hS hA rfl rfl (by decide) (by decide) (by decide) (fun hPc hDc => va_runS (As := [.ref q22, .int (-1)]) (rest := []) ⟨hx, hb, hml, hown, hts⟩ (c_fill l D cI cZ cB H.size q22 r_19.toNatClampNeg (fun _ => 0) (-1) (by show r_19.toInt.toNat < 1000000; omega)) (va_cwS 2 hts gX2_renew_J7_fill_53178 rfl rfl rfl (by decide +kernel) ⟨Nat.le_of_ble_eq_true rfl, Nat.le_of_ble_eq_true rfl⟩) (kt_preS hN hK hPc hDc) rfl rfl hl.1 rfl (lv_room (Nat.le_of_ble_eq_true rfl)) dX2_renew_67 ⟨by show 0 + 1 + 1 + 1 + 0 ≤ 3; omega, by show 0 + r_19.toInt.toNat + r_44.toInt.toNat + r_44.toInt.toNat + 0 ≤ (kt_rf p1.toInt (LH : Int) 10000).toNat + 2 * (kt_rf p2.toInt (LS : Int) 118300).toNat; omega⟩) (fun u_ H locs hw_67 hP hD hS => ?_)
  have hP : va_P D vwCl [(lk, .inr (2, [.ref q22, .ref q50, .ref q57, .int us])), (kh, .inl (cI, LH, .inl he)), (ks, .inl (cI, LS, .inl sr)), (kn, .inl (cI, LS, .inl ne)), (q22, .inl (cI, r_19.toNatClampNeg, .inl (fun _ => (-1)))), (q50, .inl (cI, r_44.toNatClampNeg, .inl (fun _ => 0))), (q57, .inl (cI, r_44.toNatClampNeg, .inl (fun _ => 0)))] H := hP.sub [0, 1, 2, 3, 6, 4, 5] rfl
  have hD : va_D A [(lk, .inr (2, [.ref q22, .ref q50, .ref q57, .int us])), (kh, .inl (cI, LH, .inl he)), (ks, .inl (cI, LS, .inl sr)), (kn, .inl (cI, LS, .inl ne)), (q22, .inl (cI, r_19.toNatClampNeg, .inl (fun _ => (-1)))), (q50, .inl (cI, r_44.toNatClampNeg, .inl (fun _ => 0))), (q57, .inl (cI, r_44.toNatClampNeg, .inl (fun _ => 0)))] := hD.sub [0, 1, 2, 3, 6, 4, 5] (by decide) rfl
  refine lv_aload_n hx hb dX2_renew_70 rfl (lv_at hl 1 rfl) ?_
  refine lv_iconst (v := 0) hx hb dX2_renew_71 (by decide) ?_
  refine va_put (D := D) (ci := 2) (v := .int 0) (ty := .int) (C := RX2) (T := TX2) (N := 4) hx hb hts iw_X2_renew_X2 tyX2 tyX2_ok nmX2 hown hK hP hD hS 0 rfl rfl 3 (by decide) (hts (.fieldLink RX2 32 "KingTable$Links" "used" "I") (by decide +kernel)) (fun _ h9 => h9) rfl (by decide +kernel) rfl rfl (Nat.le_of_ble_eq_true rfl) dX2_renew_72 (fun H locs hP hD hS => ?_)
  have hP : va_P D vwCl [(lk, .inr (2, [.ref q22, .ref q50, .ref q57, .int 0])), (kh, .inl (cI, LH, .inl he)), (ks, .inl (cI, LS, .inl sr)), (kn, .inl (cI, LS, .inl ne)), (q22, .inl (cI, r_19.toNatClampNeg, .inl (fun _ => (-1)))), (q50, .inl (cI, r_44.toNatClampNeg, .inl (fun _ => 0))), (q57, .inl (cI, r_44.toNatClampNeg, .inl (fun _ => 0)))] H := hP
  have hD : va_D A [(lk, .inr (2, [.ref q22, .ref q50, .ref q57, .int 0])), (kh, .inl (cI, LH, .inl he)), (ks, .inl (cI, LS, .inl sr)), (kn, .inl (cI, LS, .inl ne)), (q22, .inl (cI, r_19.toNatClampNeg, .inl (fun _ => (-1)))), (q50, .inl (cI, r_44.toNatClampNeg, .inl (fun _ => 0))), (q57, .inl (cI, r_44.toNatClampNeg, .inl (fun _ => 0)))] := hD
  refine W.widen (k := 3) (n := (kt_rf p1.toInt (LH : Int) 10000).toNat + 2 * (kt_rf p2.toInt (LS : Int) 118300).toNat) (by show 0 + 1 + 1 + 1 ≤ 3; omega) (by show 0 + r_19.toInt.toNat + r_44.toInt.toNat + r_44.toInt.toNat ≤ (kt_rf p1.toInt (LH : Int) 10000).toNat + 2 * (kt_rf p2.toInt (LS : Int) 118300).toNat; omega) ?_
  exact kt_rv (q22, r_19.toNatClampNeg, q50, q57, r_44.toNatClampNeg, fun _ => (-1)) hx hb hr hlk hS dX2_renew_75 (hP.sub [0, 4, 5, 6] rfl) (hD.sub [0, 4, 5, 6] (by decide) rfl) (by show (r_19.toNatClampNeg : Int) = (kt_rf p1.toInt (LH : Int) 10000) ∧ (r_44.toNatClampNeg : Int) = (kt_rf p2.toInt (LS : Int) 118300) ∧ (fun _ => (-1)) = fun _ => -1; exact ⟨by show ((r_19.toInt.toNat : Nat) : Int) = _; omega, by show ((r_44.toInt.toNat : Nat) : Int) = _; omega, rfl⟩)
