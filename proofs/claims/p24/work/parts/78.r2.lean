set_option maxHeartbeats 4000000 in
set_option maxRecDepth 100000 in
theorem c_X7_decideE (l : Launch) (D : va_G) (cI cZ cB : ClassId) (sz : Nat) (so : Nat) (ru : Nat) (tr : Nat) (lk : Nat) (vp : Nat) (vd : Nat) (vt : Nat) (vg : Nat) (vw : Nat) (ve : Nat) (vo : Nat) (vq : Nat) (qd : Int32) (pp : Int32) (ct : Int32) (sv : Int32) (LW : Nat) (LH : Nat) (LS : Nat) (LQ : Nat) (wo : Nat → Int32) (de : Nat → Int32) (qu : Nat → Int32) (p1 : Int32) (p2 : Int32) (p3 : Int32) (hlw : LW ≤ 10000) (hlh : LH ≤ 10000) (hls : LS ≤ 4000000) (hlq : LQ ≤ LW ∧ LQ ≤ LH) (hqd : 0 ≤ qd.toInt ∧ qd.toInt ≤ (LW : Int)) (hwo : kt_r wo LW (-1) 2) (hqu : kt_r qu LW 0 ((LQ : Int) - 1)) (hp1 : 0 ≤ p1.toInt ∧ p1.toInt < (LQ : Int)) (hp2 : -1 ≤ p2.toInt ∧ p2.toInt ≤ 2) (hrm : qd.toInt < (LW : Int)) : kt_Mv l yX7_decide wsX7_decide { frames := 0, cells := 0, slots := 0, locals := 0 } D (kt_ty cI cZ cB) [.ref so, .int p1, .int p2, .int p3] sz [(so, .inr (7, [.ref ru, .ref tr, .ref lk, .ref vp, .ref vd, .ref vt, .ref vg, .ref vw, .ref ve, .ref vo, .ref vq, .int qd, .int pp, .int ct, .int sv])), (vw, .inl (cI, LW, .inl wo)), (ve, .inl (cI, LW, .inl de)), (vq, .inl (cI, LW, .inl qu))] (fun (u : Int32 × (Nat → Int32) × (Nat → Int32) × (Nat → Int32)) => ((0 ≤ u.1.toInt ∧ u.1.toInt ≤ (LW : Int)) ∧ kt_r u.2.1 LW (-1) 2 ∧ kt_r u.2.2.2 LW 0 ((LQ : Int) - 1)) ∧ u.1.toInt = qd.toInt + 1 ∧ u.2.1 = upd wo p1.toInt.toNat p2 ∧ u.2.2.1 = upd de p1.toInt.toNat p3 ∧ u.2.2.2 = upd qu qd.toInt.toNat p1) (fun (u : Int32 × (Nat → Int32) × (Nat → Int32) × (Nat → Int32)) => [(so, .inr (7, [.ref ru, .ref tr, .ref lk, .ref vp, .ref vd, .ref vt, .ref vg, .ref vw, .ref ve, .ref vo, .ref vq, .int u.1, .int pp, .int ct, .int sv])), (vw, .inl (cI, LW, .inl u.2.1)), (ve, .inl (cI, LW, .inl u.2.2.1)), (vq, .inl (cI, LW, .inl u.2.2.2))]) 0 0 := by
  refine kt_Mv.of (cc := cX7_decide) (maxL := 4) (ret := none) (by decide) rfl (Nat.le_of_ble_eq_true rfl) ?_
  intro p e s m below meth c A ls H hAt hP hD hS hl
  obtain ⟨hx, hb, hr, hml, hown, hts, hN, hK, hlk, hnm, hA⟩ := hAt
  have hl : lv_has ls 4 [(0, .ref so), (1, .int p1), (2, .int p2), (3, .int p3)] := hl
  have hown : s.vm.findClass RX7 = some m.cls := hown
  have hLWi : (nI LW).toInt = (LW : Int) := kt_nI (by omega)
  have hLHi : (nI LH).toInt = (LH : Int) := kt_nI (by omega)
  have hLSi : (nI LS).toInt = (LS : Int) := kt_nI (by omega)
  refine lv_aload_n hx hb dX7_decide_0 rfl (lv_at hl 0 rfl) ?_
  refine va_get (D := D) (ci := 7) (C := RX7) (T := TX7) (N := 15) hx hb hts iw_X7_decide_X7 hown hK hP 0 rfl rfl 11 (by decide) (hts (.fieldLink RX7 100 "KingTable$Solver" "queued" "I") (List.mem_cons_of_mem _ (List.mem_append_left _ (List.Mem.head _)))) (fun _ h9 => h9) rfl dX7_decide_1 ?_
  refine lv_aload_n hx hb dX7_decide_4 rfl (lv_at hl 0 rfl) ?_
  refine va_get (D := D) (ci := 7) (C := RX7) (T := TX7) (N := 15) hx hb hts iw_X7_decide_X7 hown hK hP 0 rfl rfl 10 (by decide) (hts (.fieldLink RX7 47 "KingTable$Solver" "queue" "[I") (List.mem_cons_of_mem _ (List.mem_append_left _ (List.mem_cons_of_mem _ (List.Mem.head _))))) (fun _ h9 => h9) rfl dX7_decide_5 ?_
  refine va_alen hx hb hK hP 3 0 rfl rfl (v := nI LW) rfl dX7_decide_8 ?_
  refine lv_icmp_lt (tgt := 13) hx hb dX7_decide_9 (by decide) (fun c_9 => ?_) (fun c_9 => ?_)
  · have d_9 := c_9
    simp only [kt_lt, kt_le, kt_eq, kt_c0, kt_c1, kt_c2, kt_c3, kt_c4, kt_c8, kt_c9, kt_cm1, kt_c81, kt_c40, kt_c7, kt_c5, kt_c6, kt_c512, kt_c10, kt_c10000] at d_9
    refine lv_aload_n hx hb dX7_decide_13 rfl (lv_at hl 0 rfl) ?_
    refine va_get (D := D) (ci := 7) (C := RX7) (T := TX7) (N := 15) hx hb hts iw_X7_decide_X7 hown hK hP 0 rfl rfl 7 (by decide) (hts (.fieldLink RX7 38 "KingTable$Solver" "worths" "[I") (List.mem_cons_of_mem _ (List.mem_append_left _ (List.mem_cons_of_mem _ (List.mem_cons_of_mem _ (List.Mem.head _)))))) (fun _ h9 => h9) rfl dX7_decide_14 ?_
    refine lv_iload_n hx hb dX7_decide_17 rfl (lv_at hl 1 rfl) ?_
    refine lv_iload_n hx hb dX7_decide_18 rfl (lv_at hl 2 rfl) ?_
    have hi_1 : vp_in p1 LW := by exact kt_in (by omega) (by omega)
    refine va_iast hx hb hK hP hD hS 1 0 rfl rfl hi_1 dX7_decide_19 (fun H locs hP hD hS => ?_)
    have hwo : kt_r (upd wo p1.toNatClampNeg p2) LW (-1) 2 := hwo.upd (by omega) (by omega)
    have hP : va_P D vwCl [(so, .inr (7, [.ref ru, .ref tr, .ref lk, .ref vp, .ref vd, .ref vt, .ref vg, .ref vw, .ref ve, .ref vo, .ref vq, .int qd, .int pp, .int ct, .int sv])), (vw, .inl (cI, LW, .inl (upd wo p1.toNatClampNeg p2))), (ve, .inl (cI, LW, .inl de)), (vq, .inl (cI, LW, .inl qu))] H := hP
    have hD : va_D A [(so, .inr (7, [.ref ru, .ref tr, .ref lk, .ref vp, .ref vd, .ref vt, .ref vg, .ref vw, .ref ve, .ref vo, .ref vq, .int qd, .int pp, .int ct, .int sv])), (vw, .inl (cI, LW, .inl (upd wo p1.toNatClampNeg p2))), (ve, .inl (cI, LW, .inl de)), (vq, .inl (cI, LW, .inl qu))] := hD
    refine lv_aload_n hx hb dX7_decide_20 rfl (lv_at hl 0 rfl) ?_
    refine va_get (D := D) (ci := 7) (C := RX7) (T := TX7) (N := 15) hx hb hts iw_X7_decide_X7 hown hK hP 0 rfl rfl 8 (by decide) (hts (.fieldLink RX7 41 "KingTable$Solver" "deeps" "[I") (List.mem_cons_of_mem _ (List.mem_append_left _ (List.mem_cons_of_mem _ (List.mem_cons_of_mem _ (List.mem_cons_of_mem _ (List.Mem.head _))))))) (fun _ h9 => h9) rfl dX7_decide_21 ?_
    refine lv_iload_n hx hb dX7_decide_24 rfl (lv_at hl 1 rfl) ?_
    refine lv_iload_n hx hb dX7_decide_25 rfl (lv_at hl 3 rfl) ?_
    have hi_2 : vp_in p1 LW := by exact kt_in (by omega) (by omega)
    refine va_iast hx hb hK hP hD hS 2 0 rfl rfl hi_2 dX7_decide_26 (fun H locs hP hD hS => ?_)
    have hP : va_P D vwCl [(so, .inr (7, [.ref ru, .ref tr, .ref lk, .ref vp, .ref vd, .ref vt, .ref vg, .ref vw, .ref ve, .ref vo, .ref vq, .int qd, .int pp, .int ct, .int sv])), (vw, .inl (cI, LW, .inl (upd wo p1.toNatClampNeg p2))), (ve, .inl (cI, LW, .inl (upd de p1.toNatClampNeg p3))), (vq, .inl (cI, LW, .inl qu))] H := hP
    have hD : va_D A [(so, .inr (7, [.ref ru, .ref tr, .ref lk, .ref vp, .ref vd, .ref vt, .ref vg, .ref vw, .ref ve, .ref vo, .ref vq, .int qd, .int pp, .int ct, .int sv])), (vw, .inl (cI, LW, .inl (upd wo p1.toNatClampNeg p2))), (ve, .inl (cI, LW, .inl (upd de p1.toNatClampNeg p3))), (vq, .inl (cI, LW, .inl qu))] := hD
    refine lv_aload_n hx hb dX7_decide_27 rfl (lv_at hl 0 rfl) ?_
    refine va_get (D := D) (ci := 7) (C := RX7) (T := TX7) (N := 15) hx hb hts iw_X7_decide_X7 hown hK hP 0 rfl rfl 10 (by decide) (hts (.fieldLink RX7 47 "KingTable$Solver" "queue" "[I") (List.mem_cons_of_mem _ (List.mem_append_left _ (List.mem_cons_of_mem _ (List.Mem.head _))))) (fun _ h9 => h9) rfl dX7_decide_28 ?_
    refine lv_aload_n hx hb dX7_decide_31 rfl (lv_at hl 0 rfl) ?_
    refine va_get (D := D) (ci := 7) (C := RX7) (T := TX7) (N := 15) hx hb hts iw_X7_decide_X7 hown hK hP 0 rfl rfl 11 (by decide) (hts (.fieldLink RX7 100 "KingTable$Solver" "queued" "I") (List.mem_cons_of_mem _ (List.mem_append_left _ (List.Mem.head _)))) (fun _ h9 => h9) rfl dX7_decide_32 ?_
    refine lv_iload_n hx hb dX7_decide_35 rfl (lv_at hl 1 rfl) ?_
    have hi_3 : vp_in qd LW := by exact kt_in (by omega) (by omega)
    refine va_iast hx hb hK hP hD hS 3 0 rfl rfl hi_3 dX7_decide_36 (fun H locs hP hD hS => ?_)
    have hqu : kt_r (upd qu qd.toNatClampNeg p1) LW 0 ((LQ : Int) - 1) := hqu.upd (by omega) (by omega)
    have hP : va_P D vwCl [(so, .inr (7, [.ref ru, .ref tr, .ref lk, .ref vp, .ref vd, .ref vt, .ref vg, .ref vw, .ref ve, .ref vo, .ref vq, .int qd, .int pp, .int ct, .int sv])), (vw, .inl (cI, LW, .inl (upd wo p1.toNatClampNeg p2))), (ve, .inl (cI, LW, .inl (upd de p1.toNatClampNeg p3))), (vq, .inl (cI, LW, .inl (upd qu qd.toNatClampNeg p1)))] H := hP
    have hD : va_D A [(so, .inr (7, [.ref ru, .ref tr, .ref lk, .ref vp, .ref vd, .ref vt, .ref vg, .ref vw, .ref ve, .ref vo, .ref vq, .int qd, .int pp, .int ct, .int sv])), (vw, .inl (cI, LW, .inl (upd wo p1.toNatClampNeg p2))), (ve, .inl (cI, LW, .inl (upd de p1.toNatClampNeg p3))), (vq, .inl (cI, LW, .inl (upd qu qd.toNatClampNeg p1)))] := hD
    refine lv_aload_n hx hb dX7_decide_37 rfl (lv_at hl 0 rfl) ?_
    refine lv_dup hx hb dX7_decide_38 rfl ?_
    refine va_get (D := D) (ci := 7) (C := RX7) (T := TX7) (N := 15) hx hb hts iw_X7_decide_X7 hown hK hP 0 rfl rfl 11 (by decide) (hts (.fieldLink RX7 100 "KingTable$Solver" "queued" "I") (List.mem_cons_of_mem _ (List.mem_append_left _ (List.Mem.head _)))) (fun _ h9 => h9) rfl dX7_decide_39 ?_
    refine lv_iconst (v := 1) hx hb dX7_decide_42 (by decide) ?_
    refine lv_iadd hx hb dX7_decide_43 ?_
    refine lv_topi (fun t_43 et_43 => ?_)
    first | have hk_43 := kt_addx et_43 (by first | omega | (simp only [kt_c0, kt_c1, kt_c2, kt_c3, kt_c4, kt_c8, kt_c9, kt_cm1, kt_c81, kt_c40, kt_c7, kt_c5, kt_c6, kt_c512, kt_c10, kt_c10000]; omega)) (by first | omega | (simp only [kt_c0, kt_c1, kt_c2, kt_c3, kt_c4, kt_c8, kt_c9, kt_cm1, kt_c81, kt_c40, kt_c7, kt_c5, kt_c6, kt_c512, kt_c10, kt_c10000]; omega)) | obtain ⟨k_43, hk_43, hm_43, hM_43⟩ := kt_addk et_43
    try simp only [kt_c0, kt_c1, kt_c2, kt_c3, kt_c4, kt_c8, kt_c9, kt_cm1, kt_c81, kt_c40, kt_c7, kt_c5, kt_c6, kt_c512, kt_c10, kt_c10000] at hk_43
    refine va_put (D := D) (ci := 7) (v := .int t_43) (ty := .int) (C := RX7) (T := TX7) (N := 15) hx hb hts iw_X7_decide_X7 tyX7 tyX7_ok nmX7 hown hK hP hD hS 0 rfl rfl 11 (by decide) (hts (.fieldLink RX7 100 "KingTable$Solver" "queued" "I") (List.mem_cons_of_mem _ (List.mem_append_left _ (List.Mem.head _)))) (fun _ h9 => h9) rfl (by decide +kernel) rfl rfl (Nat.le_of_ble_eq_true rfl) dX7_decide_44 (fun H locs hP hD hS => ?_)
    have hP : va_P D vwCl [(so, .inr (7, [.ref ru, .ref tr, .ref lk, .ref vp, .ref vd, .ref vt, .ref vg, .ref vw, .ref ve, .ref vo, .ref vq, .int t_43, .int pp, .int ct, .int sv])), (vw, .inl (cI, LW, .inl (upd wo p1.toNatClampNeg p2))), (ve, .inl (cI, LW, .inl (upd de p1.toNatClampNeg p3))), (vq, .inl (cI, LW, .inl (upd qu qd.toNatClampNeg p1)))] H := hP
    have hD : va_D A [(so, .inr (7, [.ref ru, .ref tr, .ref lk, .ref vp, .ref vd, .ref vt, .ref vg, .ref vw, .ref ve, .ref vo, .ref vq, .int t_43, .int pp, .int ct, .int sv])), (vw, .inl (cI, LW, .inl (upd wo p1.toNatClampNeg p2))), (ve, .inl (cI, LW, .inl (upd de p1.toNatClampNeg p3))), (vq, .inl (cI, LW, .inl (upd qu qd.toNatClampNeg p1)))] := hD
    exact kt_rv (t_43, upd wo p1.toNatClampNeg p2, upd de p1.toNatClampNeg p3, upd qu qd.toNatClampNeg p1) hx hb hr hlk hS dX7_decide_47 hP hD (by show ((0 ≤ t_43.toInt ∧ t_43.toInt ≤ (LW : Int)) ∧ kt_r (upd wo p1.toNatClampNeg p2) LW (-1) 2 ∧ kt_r (upd qu qd.toNatClampNeg p1) LW 0 ((LQ : Int) - 1)) ∧ t_43.toInt = qd.toInt + 1 ∧ (upd wo p1.toNatClampNeg p2) = upd wo p1.toInt.toNat p2 ∧ (upd de p1.toNatClampNeg p3) = upd de p1.toInt.toNat p3 ∧ (upd qu qd.toNatClampNeg p1) = upd qu qd.toInt.toNat p1; first | (exfalso; omega) | exact ⟨⟨by omega, hwo, hqu⟩, by omega, rfl, rfl, rfl⟩)
  · have d_9 := c_9
    simp only [kt_lt, kt_le, kt_eq, kt_c0, kt_c1, kt_c2, kt_c3, kt_c4, kt_c8, kt_c9, kt_cm1, kt_c81, kt_c40, kt_c7, kt_c5, kt_c6, kt_c512, kt_c10, kt_c10000] at d_9
    exact kt_rv (qd, wo, de, qu) hx hb hr hlk hS dX7_decide_12 hP hD (by show ((0 ≤ qd.toInt ∧ qd.toInt ≤ (LW : Int)) ∧ kt_r wo LW (-1) 2 ∧ kt_r qu LW 0 ((LQ : Int) - 1)) ∧ qd.toInt = qd.toInt + 1 ∧ wo = upd wo p1.toInt.toNat p2 ∧ de = upd de p1.toInt.toNat p3 ∧ qu = upd qu qd.toInt.toNat p1; first | (exfalso; omega) | exact ⟨⟨by omega, hwo, hqu⟩, by omega, rfl, rfl, rfl⟩)

set_option maxHeartbeats 4000000 in
set_option maxRecDepth 100000 in
theorem c_X7_informE (l : Launch) (D : va_G) (cI cZ cB : ClassId) (sz : Nat) (so : Nat) (ru : Nat) (tr : Nat) (lk : Nat) (vp : Nat) (vd : Nat) (vt : Nat) (vg : Nat) (vw : Nat) (ve : Nat) (vo : Nat) (vq : Nat) (qd : Int32) (pp : Int32) (ct : Int32) (sv : Int32) (LW : Nat) (LH : Nat) (LS : Nat) (LQ : Nat) (wo : Nat → Int32) (de : Nat → Int32) (qu : Nat → Int32) (op : Nat → Int32) (p1 : Int32) (p2 : Int32) (p3 : Int32) (hlw : LW ≤ 10000) (hlh : LH ≤ 10000) (hls : LS ≤ 4000000) (hlq : LQ ≤ LW ∧ LQ ≤ LH) (hqd : 0 ≤ qd.toInt ∧ qd.toInt ≤ (LW : Int)) (hwo : kt_r wo LW (-1) 2) (hqu : kt_r qu LW 0 ((LQ : Int) - 1)) (hp1 : 0 ≤ p1.toInt ∧ p1.toInt < (LQ : Int)) (hp2 : -1 ≤ p2.toInt ∧ p2.toInt ≤ 2) (hop : (wo p1.toInt.toNat).toInt = 2 → 1 ≤ (op p1.toInt.toNat).toInt ∧ (op p1.toInt.toNat).toInt ≤ 200000 ∧ qd.toInt < (LW : Int)) : kt_Mv l yX7_inform wsX7_inform { frames := 1, cells := 0, slots := 0, locals := 23 } D (kt_ty cI cZ cB) [.ref so, .int p1, .int p2, .int p3] sz [(so, .inr (7, [.ref ru, .ref tr, .ref lk, .ref vp, .ref vd, .ref vt, .ref vg, .ref vw, .ref ve, .ref vo, .ref vq, .int qd, .int pp, .int ct, .int sv])), (vw, .inl (cI, LW, .inl wo)), (ve, .inl (cI, LW, .inl de)), (vq, .inl (cI, LW, .inl qu)), (vo, .inl (cI, LW, .inl op))] (fun (u : Int32 × (Nat → Int32) × (Nat → Int32) × (Nat → Int32) × (Nat → Int32)) => ((0 ≤ u.1.toInt ∧ u.1.toInt ≤ (LW : Int)) ∧ kt_r u.2.1 LW (-1) 2 ∧ kt_r u.2.2.2.1 LW 0 ((LQ : Int) - 1)) ∧ kt_INF p1.toInt.toNat p1 p2 p3 wo de op qu u.2.1 u.2.2.1 u.2.2.2.2 u.2.2.2.1 qd u.1) (fun (u : Int32 × (Nat → Int32) × (Nat → Int32) × (Nat → Int32) × (Nat → Int32)) => [(so, .inr (7, [.ref ru, .ref tr, .ref lk, .ref vp, .ref vd, .ref vt, .ref vg, .ref vw, .ref ve, .ref vo, .ref vq, .int u.1, .int pp, .int ct, .int sv])), (vw, .inl (cI, LW, .inl u.2.1)), (ve, .inl (cI, LW, .inl u.2.2.1)), (vq, .inl (cI, LW, .inl u.2.2.2.1)), (vo, .inl (cI, LW, .inl u.2.2.2.2))]) 0 0 := by
  refine kt_Mv.of (cc := cX7_inform) (maxL := 4) (ret := none) (by decide) rfl (Nat.le_of_ble_eq_true rfl) ?_
  intro p e s m below meth c A ls H hAt hP hD hS hl
  obtain ⟨hx, hb, hr, hml, hown, hts, hN, hK, hlk, hnm, hA⟩ := hAt
  have hl : lv_has ls 4 [(0, .ref so), (1, .int p1), (2, .int p2), (3, .int p3)] := hl
  have hown : s.vm.findClass RX7 = some m.cls := hown
  have hLWi : (nI LW).toInt = (LW : Int) := kt_nI (by omega)
  have hLHi : (nI LH).toInt = (LH : Int) := kt_nI (by omega)
  have hLSi : (nI LS).toInt = (LS : Int) := kt_nI (by omega)
  refine lv_aload_n hx hb dX7_inform_0 rfl (lv_at hl 0 rfl) ?_
  refine va_get (D := D) (ci := 7) (C := RX7) (T := TX7) (N := 15) hx hb hts iw_X7_inform_X7 hown hK hP 0 rfl rfl 7 (by decide) (hts (.fieldLink RX7 38 "KingTable$Solver" "worths" "[I") (List.mem_cons_of_mem _ (List.mem_append_left _ (List.Mem.head _)))) (fun _ h9 => h9) rfl dX7_inform_1 ?_
  refine lv_iload_n hx hb dX7_inform_4 rfl (lv_at hl 1 rfl) ?_
  have hi_1 : vp_in p1 LW := by exact kt_in (by omega) (by omega)
  refine va_iald hx hb hK hP 1 0 rfl rfl hi_1 dX7_inform_5 ?_
  refine lv_topi (fun a_5 ea_5 => ?_)
  have ra_5 := hwo.get hi_1
  rw [← ea_5] at ra_5
  have i5 : (wo p1.toInt.toNat).toInt = a_5.toInt := congrArg Int32.toInt ea_5.symm
  refine lv_iconst (v := 2) hx hb dX7_inform_6 (by decide) ?_
  refine lv_icmp_eq (tgt := 11) hx hb dX7_inform_7 (by decide) (fun c_7 => ?_) (fun c_7 => ?_)
  · have d_7 := c_7
    simp only [kt_lt, kt_le, kt_eq, kt_c0, kt_c1, kt_c2, kt_c3, kt_c4, kt_c8, kt_c9, kt_cm1, kt_c81, kt_c40, kt_c7, kt_c5, kt_c6, kt_c512, kt_c10, kt_c10000] at d_7
    refine lv_aload_n hx hb dX7_inform_11 rfl (lv_at hl 0 rfl) ?_
    refine va_get (D := D) (ci := 7) (C := RX7) (T := TX7) (N := 15) hx hb hts iw_X7_inform_X7 hown hK hP 0 rfl rfl 9 (by decide) (hts (.fieldLink RX7 44 "KingTable$Solver" "open" "[I") (List.mem_cons_of_mem _ (List.mem_append_left _ (List.mem_cons_of_mem _ (List.Mem.head _))))) (fun _ h9 => h9) rfl dX7_inform_12 ?_
    refine lv_iload_n hx hb dX7_inform_15 rfl (lv_at hl 1 rfl) ?_
    refine lv_dup2_11 hx hb dX7_inform_16 rfl rfl ?_
    have hi_2 : vp_in p1 LW := by exact kt_in (by omega) (by omega)
    refine va_iald hx hb hK hP 4 0 rfl rfl hi_2 dX7_inform_17 ?_
    refine lv_topi (fun a_17 ea_17 => ?_)
    have hop2 := hop (by omega)
    have i17 : (op p1.toInt.toNat).toInt = a_17.toInt := congrArg Int32.toInt ea_17.symm
    refine lv_iconst (v := 1) hx hb dX7_inform_18 (by decide) ?_
    refine lv_isub hx hb dX7_inform_19 ?_
    refine lv_topi (fun t_19 et_19 => ?_)
    first | have hk_19 := kt_subx et_19 (by first | omega | (simp only [kt_c0, kt_c1, kt_c2, kt_c3, kt_c4, kt_c8, kt_c9, kt_cm1, kt_c81, kt_c40, kt_c7, kt_c5, kt_c6, kt_c512, kt_c10, kt_c10000]; omega)) (by first | omega | (simp only [kt_c0, kt_c1, kt_c2, kt_c3, kt_c4, kt_c8, kt_c9, kt_cm1, kt_c81, kt_c40, kt_c7, kt_c5, kt_c6, kt_c512, kt_c10, kt_c10000]; omega)) | obtain ⟨k_19, hk_19, hm_19, hM_19⟩ := kt_subk et_19
    try simp only [kt_c0, kt_c1, kt_c2, kt_c3, kt_c4, kt_c8, kt_c9, kt_cm1, kt_c81, kt_c40, kt_c7, kt_c5, kt_c6, kt_c512, kt_c10, kt_c10000] at hk_19
    have hi_3 : vp_in p1 LW := by exact kt_in (by omega) (by omega)
    refine va_iast hx hb hK hP hD hS 4 0 rfl rfl hi_3 dX7_inform_20 (fun H locs hP hD hS => ?_)
    have hP : va_P D vwCl [(so, .inr (7, [.ref ru, .ref tr, .ref lk, .ref vp, .ref vd, .ref vt, .ref vg, .ref vw, .ref ve, .ref vo, .ref vq, .int qd, .int pp, .int ct, .int sv])), (vw, .inl (cI, LW, .inl wo)), (ve, .inl (cI, LW, .inl de)), (vq, .inl (cI, LW, .inl qu)), (vo, .inl (cI, LW, .inl (upd op p1.toNatClampNeg t_19)))] H := hP
    have hD : va_D A [(so, .inr (7, [.ref ru, .ref tr, .ref lk, .ref vp, .ref vd, .ref vt, .ref vg, .ref vw, .ref ve, .ref vo, .ref vq, .int qd, .int pp, .int ct, .int sv])), (vw, .inl (cI, LW, .inl wo)), (ve, .inl (cI, LW, .inl de)), (vq, .inl (cI, LW, .inl qu)), (vo, .inl (cI, LW, .inl (upd op p1.toNatClampNeg t_19)))] := hD
    refine lv_iload_n hx hb dX7_inform_21 rfl (lv_at hl 2 rfl) ?_
    refine lv_iload_n hx hb dX7_inform_22 rfl (lv_at hl 1 rfl) ?_
    refine lv_iconst (v := 1) hx hb dX7_inform_23 (by decide) ?_
    refine lv_iand hx hb dX7_inform_24 ?_
    refine lv_topi (fun t_24 et_24 => ?_)
    have ha_24 : 0 ≤ t_24.toInt ∧ t_24.toInt ≤ 1 := by rw [et_24]; exact kt_and1 _
    have e24 : t_24.toInt = kt_own p1.toInt.toNat := by
      rw [et_24, kt_and1m hp1.1]
      unfold kt_own
      omega
    refine lv_icmp_eq (tgt := 37) hx hb dX7_inform_25 (by decide) (fun c_25 => ?_) (fun c_25 => ?_)
    · have d_25 := c_25
      simp only [kt_lt, kt_le, kt_eq, kt_c0, kt_c1, kt_c2, kt_c3, kt_c4, kt_c8, kt_c9, kt_cm1, kt_c81, kt_c40, kt_c7, kt_c5, kt_c6, kt_c512, kt_c10, kt_c10000] at d_25
      refine lv_aload_n hx hb dX7_inform_37 rfl (lv_at hl 0 rfl) ?_
      refine lv_iload_n hx hb dX7_inform_38 rfl (lv_at hl 1 rfl) ?_
      refine lv_iload_n hx hb dX7_inform_39 rfl (lv_at hl 2 rfl) ?_
      refine lv_iload_n hx hb dX7_inform_40 rfl (lv_at hl 3 rfl) ?_
      refine kt_bv (wc := [(so, .inr (7, [.ref ru, .ref tr, .ref lk, .ref vp, .ref vd, .ref vt, .ref vg, .ref vw, .ref ve, .ref vo, .ref vq, .int qd, .int pp, .int ct, .int sv])), (vw, .inl (cI, LW, .inl wo)), (ve, .inl (cI, LW, .inl de)), (vq, .inl (cI, LW, .inl qu))]) (wr := [(vo, .inl (cI, LW, .inl (upd op p1.toNatClampNeg t_19)))]) [0, 1, 2, 3] [4] hP hD hS hA rfl rfl (by decide) (by decide) (by decide) (fun hPc hDc => va_runV (As := [.int p1, .int p2, .int p3]) (rest := []) ⟨hx, hb, hml, hown, hts⟩ (c_X7_decideE l D cI cZ cB H.size so ru tr lk vp vd vt vg vw ve vo vq qd pp ct sv LW LH LS LQ wo de qu p1 p2 p3 hlw hlh hls hlq hqd hwo hqu hp1 hp2 (by omega)) (cwV 3 hts gX7_inform_X7_decide rfl rfl rfl (by decide +kernel) ⟨Nat.le_of_ble_eq_true rfl, Nat.le_of_ble_eq_true rfl⟩) (kt_preV hN hK hPc hDc 0 (ci := 7) (q := (RX7, TX7, 15)) rfl rfl) rfl rfl hl.1 rfl (lv_room (Nat.le_of_ble_eq_true rfl)) dX7_inform_41 ⟨Nat.le_of_ble_eq_true rfl, Nat.le_of_ble_eq_true rfl⟩) (fun u_ H locs hw_41 hP hD hS => ?_)
      obtain ⟨qd2_41, wo2_41, de2_41, qu2_41⟩ := u_
      have hP : va_P D vwCl [(so, .inr (7, [.ref ru, .ref tr, .ref lk, .ref vp, .ref vd, .ref vt, .ref vg, .ref vw, .ref ve, .ref vo, .ref vq, .int qd2_41, .int pp, .int ct, .int sv])), (vw, .inl (cI, LW, .inl wo2_41)), (ve, .inl (cI, LW, .inl de2_41)), (vq, .inl (cI, LW, .inl qu2_41)), (vo, .inl (cI, LW, .inl (upd op p1.toNatClampNeg t_19)))] H := hP.sub [1, 2, 3, 4, 0] rfl
      have hD : va_D A [(so, .inr (7, [.ref ru, .ref tr, .ref lk, .ref vp, .ref vd, .ref vt, .ref vg, .ref vw, .ref ve, .ref vo, .ref vq, .int qd2_41, .int pp, .int ct, .int sv])), (vw, .inl (cI, LW, .inl wo2_41)), (ve, .inl (cI, LW, .inl de2_41)), (vq, .inl (cI, LW, .inl qu2_41)), (vo, .inl (cI, LW, .inl (upd op p1.toNatClampNeg t_19)))] := hD.sub [1, 2, 3, 4, 0] (by decide) rfl
      try dsimp only at hw_41
      obtain ⟨⟨hqd, hwo, hqu⟩, q1_, q2_, q3_, q4_⟩ := hw_41
      exact kt_rv (qd2_41, wo2_41, de2_41, qu2_41, upd op p1.toNatClampNeg t_19) hx hb hr hlk hS dX7_inform_44 hP hD (by show ((0 ≤ qd2_41.toInt ∧ qd2_41.toInt ≤ (LW : Int)) ∧ kt_r wo2_41 LW (-1) 2 ∧ kt_r qu2_41 LW 0 ((LQ : Int) - 1)) ∧ kt_INF p1.toInt.toNat p1 p2 p3 wo de op qu wo2_41 de2_41 (upd op p1.toNatClampNeg t_19) qu2_41 qd qd2_41; first
           | exact ⟨⟨hqd, hwo, hqu⟩, Or.inl ⟨by omega, rfl, rfl, rfl, rfl, rfl⟩⟩
           | exact ⟨⟨hqd, hwo, hqu⟩, Or.inr (Or.inl ⟨by omega, by omega, by omega, rfl, rfl, rfl, rfl, t_19, by omega, rfl⟩)⟩
           | exact ⟨⟨hqd, hwo, hqu⟩, Or.inr (Or.inr ⟨by omega, by first | exact Or.inl (by omega) | exact Or.inr (by omega), q1_, q2_, q3_, q4_, t_19, by omega, rfl⟩)⟩)
    · have d_25 := c_25
      simp only [kt_lt, kt_le, kt_eq, kt_c0, kt_c1, kt_c2, kt_c3, kt_c4, kt_c8, kt_c9, kt_cm1, kt_c81, kt_c40, kt_c7, kt_c5, kt_c6, kt_c512, kt_c10, kt_c10000] at d_25
      refine lv_aload_n hx hb dX7_inform_28 rfl (lv_at hl 0 rfl) ?_
      refine va_get (D := D) (ci := 7) (C := RX7) (T := TX7) (N := 15) hx hb hts iw_X7_inform_X7 hown hK hP 0 rfl rfl 9 (by decide) (hts (.fieldLink RX7 44 "KingTable$Solver" "open" "[I") (List.mem_cons_of_mem _ (List.mem_append_left _ (List.mem_cons_of_mem _ (List.Mem.head _))))) (fun _ h9 => h9) rfl dX7_inform_29 ?_
      refine lv_iload_n hx hb dX7_inform_32 rfl (lv_at hl 1 rfl) ?_
      have hi_4 : vp_in p1 LW := by exact kt_in (by omega) (by omega)
      refine va_iald hx hb hK hP 4 0 rfl rfl hi_4 dX7_inform_33 ?_
      refine lv_topi (fun a_33 ea_33 => ?_)
      rw [pk_us] at ea_33
      have i33 := congrArg Int32.toInt ea_33
      refine lv_if_ne (tgt := 44) hx hb dX7_inform_34 (by decide) (fun c_34 => ?_) (fun c_34 => ?_)
      · have d_34 := c_34
        simp only [kt_lt, kt_le, kt_eq, kt_c0, kt_c1, kt_c2, kt_c3, kt_c4, kt_c8, kt_c9, kt_cm1, kt_c81, kt_c40, kt_c7, kt_c5, kt_c6, kt_c512, kt_c10, kt_c10000] at d_34
        exact kt_rv (qd, wo, de, qu, upd op p1.toNatClampNeg t_19) hx hb hr hlk hS dX7_inform_44 hP hD (by show ((0 ≤ qd.toInt ∧ qd.toInt ≤ (LW : Int)) ∧ kt_r wo LW (-1) 2 ∧ kt_r qu LW 0 ((LQ : Int) - 1)) ∧ kt_INF p1.toInt.toNat p1 p2 p3 wo de op qu wo de (upd op p1.toNatClampNeg t_19) qu qd qd; first
             | exact ⟨⟨hqd, hwo, hqu⟩, Or.inl ⟨by omega, rfl, rfl, rfl, rfl, rfl⟩⟩
             | exact ⟨⟨hqd, hwo, hqu⟩, Or.inr (Or.inl ⟨by omega, by omega, by omega, rfl, rfl, rfl, rfl, t_19, by omega, rfl⟩)⟩
             | exact ⟨⟨hqd, hwo, hqu⟩, Or.inr (Or.inr ⟨by omega, by first | exact Or.inl (by omega) | exact Or.inr (by omega), q1_, q2_, q3_, q4_, t_19, by omega, rfl⟩)⟩)
      · have d_34 := c_34
        simp only [kt_lt, kt_le, kt_eq, kt_c0, kt_c1, kt_c2, kt_c3, kt_c4, kt_c8, kt_c9, kt_cm1, kt_c81, kt_c40, kt_c7, kt_c5, kt_c6, kt_c512, kt_c10, kt_c10000] at d_34
        refine lv_aload_n hx hb dX7_inform_37 rfl (lv_at hl 0 rfl) ?_
        refine lv_iload_n hx hb dX7_inform_38 rfl (lv_at hl 1 rfl) ?_
        refine lv_iload_n hx hb dX7_inform_39 rfl (lv_at hl 2 rfl) ?_
        refine lv_iload_n hx hb dX7_inform_40 rfl (lv_at hl 3 rfl) ?_
        refine kt_bv (wc := [(so, .inr (7, [.ref ru, .ref tr, .ref lk, .ref vp, .ref vd, .ref vt, .ref vg, .ref vw, .ref ve, .ref vo, .ref vq, .int qd, .int pp, .int ct, .int sv])), (vw, .inl (cI, LW, .inl wo)), (ve, .inl (cI, LW, .inl de)), (vq, .inl (cI, LW, .inl qu))]) (wr := [(vo, .inl (cI, LW, .inl (upd op p1.toNatClampNeg t_19)))]) [0, 1, 2, 3] [4] hP hD hS hA rfl rfl (by decide) (by decide) (by decide) (fun hPc hDc => va_runV (As := [.int p1, .int p2, .int p3]) (rest := []) ⟨hx, hb, hml, hown, hts⟩ (c_X7_decideE l D cI cZ cB H.size so ru tr lk vp vd vt vg vw ve vo vq qd pp ct sv LW LH LS LQ wo de qu p1 p2 p3 hlw hlh hls hlq hqd hwo hqu hp1 hp2 (by omega)) (cwV 3 hts gX7_inform_X7_decide rfl rfl rfl (by decide +kernel) ⟨Nat.le_of_ble_eq_true rfl, Nat.le_of_ble_eq_true rfl⟩) (kt_preV hN hK hPc hDc 0 (ci := 7) (q := (RX7, TX7, 15)) rfl rfl) rfl rfl hl.1 rfl (lv_room (Nat.le_of_ble_eq_true rfl)) dX7_inform_41 ⟨Nat.le_of_ble_eq_true rfl, Nat.le_of_ble_eq_true rfl⟩) (fun u_ H locs hw_41 hP hD hS => ?_)
        obtain ⟨qd2_41, wo2_41, de2_41, qu2_41⟩ := u_
        have hP : va_P D vwCl [(so, .inr (7, [.ref ru, .ref tr, .ref lk, .ref vp, .ref vd, .ref vt, .ref vg, .ref vw, .ref ve, .ref vo, .ref vq, .int qd2_41, .int pp, .int ct, .int sv])), (vw, .inl (cI, LW, .inl wo2_41)), (ve, .inl (cI, LW, .inl de2_41)), (vq, .inl (cI, LW, .inl qu2_41)), (vo, .inl (cI, LW, .inl (upd op p1.toNatClampNeg t_19)))] H := hP.sub [1, 2, 3, 4, 0] rfl
        have hD : va_D A [(so, .inr (7, [.ref ru, .ref tr, .ref lk, .ref vp, .ref vd, .ref vt, .ref vg, .ref vw, .ref ve, .ref vo, .ref vq, .int qd2_41, .int pp, .int ct, .int sv])), (vw, .inl (cI, LW, .inl wo2_41)), (ve, .inl (cI, LW, .inl de2_41)), (vq, .inl (cI, LW, .inl qu2_41)), (vo, .inl (cI, LW, .inl (upd op p1.toNatClampNeg t_19)))] := hD.sub [1, 2, 3, 4, 0] (by decide) rfl
        try dsimp only at hw_41
        obtain ⟨⟨hqd, hwo, hqu⟩, q1_, q2_, q3_, q4_⟩ := hw_41
        exact kt_rv (qd2_41, wo2_41, de2_41, qu2_41, upd op p1.toNatClampNeg t_19) hx hb hr hlk hS dX7_inform_44 hP hD (by show ((0 ≤ qd2_41.toInt ∧ qd2_41.toInt ≤ (LW : Int)) ∧ kt_r wo2_41 LW (-1) 2 ∧ kt_r qu2_41 LW 0 ((LQ : Int) - 1)) ∧ kt_INF p1.toInt.toNat p1 p2 p3 wo de op qu wo2_41 de2_41 (upd op p1.toNatClampNeg t_19) qu2_41 qd qd2_41; first
             | exact ⟨⟨hqd, hwo, hqu⟩, Or.inl ⟨by omega, rfl, rfl, rfl, rfl, rfl⟩⟩
             | exact ⟨⟨hqd, hwo, hqu⟩, Or.inr (Or.inl ⟨by omega, by omega, by omega, rfl, rfl, rfl, rfl, t_19, by omega, rfl⟩)⟩
             | exact ⟨⟨hqd, hwo, hqu⟩, Or.inr (Or.inr ⟨by omega, by first | exact Or.inl (by omega) | exact Or.inr (by omega), q1_, q2_, q3_, q4_, t_19, by omega, rfl⟩)⟩)
  · have d_7 := c_7
    simp only [kt_lt, kt_le, kt_eq, kt_c0, kt_c1, kt_c2, kt_c3, kt_c4, kt_c8, kt_c9, kt_cm1, kt_c81, kt_c40, kt_c7, kt_c5, kt_c6, kt_c512, kt_c10, kt_c10000] at d_7
    exact kt_rv (qd, wo, de, qu, op) hx hb hr hlk hS dX7_inform_10 hP hD (by show ((0 ≤ qd.toInt ∧ qd.toInt ≤ (LW : Int)) ∧ kt_r wo LW (-1) 2 ∧ kt_r qu LW 0 ((LQ : Int) - 1)) ∧ kt_INF p1.toInt.toNat p1 p2 p3 wo de op qu wo de op qu qd qd; first
         | exact ⟨⟨hqd, hwo, hqu⟩, Or.inl ⟨by omega, rfl, rfl, rfl, rfl, rfl⟩⟩
         | exact ⟨⟨hqd, hwo, hqu⟩, Or.inr (Or.inl ⟨by omega, by omega, by omega, rfl, rfl, rfl, rfl, t_19, by omega, rfl⟩)⟩
         | exact ⟨⟨hqd, hwo, hqu⟩, Or.inr (Or.inr ⟨by omega, by first | exact Or.inl (by omega) | exact Or.inr (by omega), q1_, q2_, q3_, q4_, t_19, by omega, rfl⟩)⟩)

set_option maxHeartbeats 4000000 in
set_option maxRecDepth 100000 in
theorem c_X7_spreadE (l : Launch) (D : va_G) (cI cZ cB : ClassId) (sz : Nat) (so : Nat) (ru : Nat) (tr : Nat) (lk : Nat) (vp : Nat) (vd : Nat) (vt : Nat) (vg : Nat) (vw : Nat) (ve : Nat) (vo : Nat) (vq : Nat) (qd : Int32) (pp : Int32) (ct : Int32) (sv : Int32) (LW : Nat) (LH : Nat) (LS : Nat) (LQ : Nat) (wo : Nat → Int32) (de : Nat → Int32) (qu : Nat → Int32) (op : Nat → Int32) (kh : Nat) (ks : Nat) (kn : Nat) (us : Int32) (he : Nat → Int32) (sr : Nat → Int32) (ne : Nat → Int32) (T_ : Nat) (U_ : Nat) (E_ : Nat → Int) (et_ : Nat → Nat) (hlw : LW ≤ 10000) (hlh : LH ≤ 10000) (hls : LS ≤ 4000000) (hlq : LQ ≤ LW ∧ LQ ≤ LH) (hqd : 0 ≤ qd.toInt ∧ qd.toInt ≤ (LW : Int)) (hwo : kt_r wo LW (-1) 2) (hqu : kt_r qu LW 0 ((LQ : Int) - 1)) (hus : 0 ≤ us.toInt ∧ us.toInt ≤ (LS : Int)) (hhe : kt_r he LH (-1) ((LS : Int) - 1)) (hsr : kt_r sr LS 0 ((LQ : Int) - 1)) (hne : kt_r ne LS (-1) ((LS : Int) - 1)) (hU : us.toInt = (U_ : Int)) (hUL : U_ ≤ LS ∧ LS ≤ 118300) (hTL : T_ ≤ LQ) (hli : kt_LI T_ U_ et_ he ne) (hes : ∀ e, e < U_ → (sr e).toInt.toNat < T_) (hjh : kt_JH T_ U_ E_ et_ sr wo de op qu qd.toInt.toNat 0) : kt_Mv l yX7_spread wsX7_spread { frames := 2, cells := 0, slots := 0, locals := 46 } D (kt_ty cI cZ cB) [.ref so] sz [(so, .inr (7, [.ref ru, .ref tr, .ref lk, .ref vp, .ref vd, .ref vt, .ref vg, .ref vw, .ref ve, .ref vo, .ref vq, .int qd, .int pp, .int ct, .int sv])), (vw, .inl (cI, LW, .inl wo)), (ve, .inl (cI, LW, .inl de)), (vq, .inl (cI, LW, .inl qu)), (vo, .inl (cI, LW, .inl op)), (lk, .inr (2, [.ref kh, .ref ks, .ref kn, .int us])), (kh, .inl (cI, LH, .inl he)), (ks, .inl (cI, LS, .inl sr)), (kn, .inl (cI, LS, .inl ne))] (fun (u : Int32 × (Nat → Int32) × (Nat → Int32) × (Nat → Int32) × (Nat → Int32)) => ((0 ≤ u.1.toInt ∧ u.1.toInt ≤ (LW : Int)) ∧ kt_r u.2.1 LW (-1) 2 ∧ kt_r u.2.2.2.1 LW 0 ((LQ : Int) - 1)) ∧ ∀ s, s < T_ → kt_sol (-1) E_ (kt_lk U_ (fun e => (sr e).toInt.toNat) et_) (fun s => (u.2.1 s).toInt) (fun s => (u.2.2.1 s).toInt) s) (fun (u : Int32 × (Nat → Int32) × (Nat → Int32) × (Nat → Int32) × (Nat → Int32)) => [(so, .inr (7, [.ref ru, .ref tr, .ref lk, .ref vp, .ref vd, .ref vt, .ref vg, .ref vw, .ref ve, .ref vo, .ref vq, .int u.1, .int pp, .int ct, .int sv])), (vw, .inl (cI, LW, .inl u.2.1)), (ve, .inl (cI, LW, .inl u.2.2.1)), (vq, .inl (cI, LW, .inl u.2.2.2.1)), (vo, .inl (cI, LW, .inl u.2.2.2.2)), (lk, .inr (2, [.ref kh, .ref ks, .ref kn, .int us])), (kh, .inl (cI, LH, .inl he)), (ks, .inl (cI, LS, .inl sr)), (kn, .inl (cI, LS, .inl ne))]) 0 0 := by
  refine kt_Mv.of (cc := cX7_spread) (maxL := 5) (ret := none) (by decide) rfl (Nat.le_of_ble_eq_true rfl) ?_
  intro p e s m below meth c A ls H hAt hP hD hS hl
  obtain ⟨hx, hb, hr, hml, hown, hts, hN, hK, hlk, hnm, hA⟩ := hAt
  have hl : lv_has ls 5 [(0, .ref so)] := hl
  have hown : s.vm.findClass RX7 = some m.cls := hown
  have hLWi : (nI LW).toInt = (LW : Int) := kt_nI (by omega)
  have hLHi : (nI LH).toInt = (LH : Int) := kt_nI (by omega)
  have hLSi : (nI LS).toInt = (LS : Int) := kt_nI (by omega)
  have het := hli.2.2
  refine lv_iconst (v := 0) hx hb dX7_spread_0 (by decide) ?_
  refine lv_istore_n (lv' := [(1, .int 0), (0, .ref so)]) hx hb dX7_spread_1 rfl hl (by decide) rfl (fun ls hl => ?_)
  refine kt_loop (σ := Int32 × Int32 × (Nat → Int32) × (Nat → Int32) × (Nat → Int32) × (Nat → Int32)) 2 5 (fun u => [(so, .inr (7, [.ref ru, .ref tr, .ref lk, .ref vp, .ref vd, .ref vt, .ref vg, .ref vw, .ref ve, .ref vo, .ref vq, .int u.2.1, .int pp, .int ct, .int sv])), (vw, .inl (cI, LW, .inl u.2.2.1)), (ve, .inl (cI, LW, .inl u.2.2.2.1)), (vq, .inl (cI, LW, .inl u.2.2.2.2.1)), (vo, .inl (cI, LW, .inl u.2.2.2.2.2)), (lk, .inr (2, [.ref kh, .ref ks, .ref kn, .int us])), (kh, .inl (cI, LH, .inl he)), (ks, .inl (cI, LS, .inl sr)), (kn, .inl (cI, LS, .inl ne))]) (fun u => [(1, .int u.1), (0, .ref so)]) (fun n u => (0 ≤ u.1.toInt ∧ u.1.toInt ≤ (LW : Int) ∧ (LW : Int) < u.1.toInt + n) ∧ (0 ≤ u.2.1.toInt ∧ u.2.1.toInt ≤ (LW : Int)) ∧ kt_r u.2.2.1 LW (-1) 2 ∧ kt_r u.2.2.2.2.1 LW 0 ((LQ : Int) - 1) ∧ kt_JH T_ U_ E_ et_ sr u.2.2.1 u.2.2.2.1 u.2.2.2.2.2 u.2.2.2.2.1 u.2.1.toInt.toNat u.1.toInt.toNat) (fun u h => by omega) (fun n_2 ih_2 u hI H locs hP hD hS ls hl => ?_) (LW + 1) ((0 : Int32), qd, wo, de, qu, op) (by show (0 ≤ (0 : Int32).toInt ∧ (0 : Int32).toInt ≤ (LW : Int) ∧ (LW : Int) < (0 : Int32).toInt + (LW + 1)) ∧ (0 ≤ qd.toInt ∧ qd.toInt ≤ (LW : Int)) ∧ kt_r wo LW (-1) 2 ∧ kt_r qu LW 0 ((LQ : Int) - 1) ∧ kt_JH T_ U_ E_ et_ sr wo de op qu qd.toInt.toNat (0 : Int32).toInt.toNat; exact ⟨⟨by decide, by rw [kt_c0]; omega, by rw [kt_c0]; omega⟩, hqd, hwo, hqu, by rw [show (0 : Int32).toInt.toNat = 0 by decide]; exact hjh⟩) hP hD hS (lv_sub hl [0, 1] rfl)
  obtain ⟨i, q1, g1, g2, g3, g4⟩ := u
  have hP : va_P D vwCl [(so, .inr (7, [.ref ru, .ref tr, .ref lk, .ref vp, .ref vd, .ref vt, .ref vg, .ref vw, .ref ve, .ref vo, .ref vq, .int q1, .int pp, .int ct, .int sv])), (vw, .inl (cI, LW, .inl g1)), (ve, .inl (cI, LW, .inl g2)), (vq, .inl (cI, LW, .inl g3)), (vo, .inl (cI, LW, .inl g4)), (lk, .inr (2, [.ref kh, .ref ks, .ref kn, .int us])), (kh, .inl (cI, LH, .inl he)), (ks, .inl (cI, LS, .inl sr)), (kn, .inl (cI, LS, .inl ne))] H := hP
  have hD : va_D A [(so, .inr (7, [.ref ru, .ref tr, .ref lk, .ref vp, .ref vd, .ref vt, .ref vg, .ref vw, .ref ve, .ref vo, .ref vq, .int q1, .int pp, .int ct, .int sv])), (vw, .inl (cI, LW, .inl g1)), (ve, .inl (cI, LW, .inl g2)), (vq, .inl (cI, LW, .inl g3)), (vo, .inl (cI, LW, .inl g4)), (lk, .inr (2, [.ref kh, .ref ks, .ref kn, .int us])), (kh, .inl (cI, LH, .inl he)), (ks, .inl (cI, LS, .inl sr)), (kn, .inl (cI, LS, .inl ne))] := hD
  have hl : lv_has ls 5 [(1, .int i), (0, .ref so)] := hl
  have hI : (0 ≤ i.toInt ∧ i.toInt ≤ (LW : Int) ∧ (LW : Int) < i.toInt + (n_2 + 1)) ∧ (0 ≤ q1.toInt ∧ q1.toInt ≤ (LW : Int)) ∧ kt_r g1 LW (-1) 2 ∧ kt_r g3 LW 0 ((LQ : Int) - 1) ∧ kt_JH T_ U_ E_ et_ sr g1 g2 g4 g3 q1.toInt.toNat i.toInt.toNat := hI
  obtain ⟨hib, hqd, hwo, hqu, hjh⟩ := hI
  refine lv_iload_n hx hb dX7_spread_2 rfl (lv_at hl 0 rfl) ?_
  refine lv_aload_n hx hb dX7_spread_3 rfl (lv_at hl 1 rfl) ?_
  refine va_get (D := D) (ci := 7) (C := RX7) (T := TX7) (N := 15) hx hb hts iw_X7_spread_X7 hown hK hP 0 rfl rfl 11 (by decide) (hts (.fieldLink RX7 100 "KingTable$Solver" "queued" "I") (List.mem_cons_of_mem _ (List.mem_append_left _ (List.mem_append_left _ (List.Mem.head _))))) (fun _ h9 => h9) rfl dX7_spread_4 ?_
  refine lv_icmp_ge (tgt := 105) hx hb dX7_spread_7 (by decide) (fun c_7 => ?_) (fun c_7 => ?_)
  · have d_7 := c_7
    simp only [kt_lt, kt_le, kt_eq, kt_c0, kt_c1, kt_c2, kt_c3, kt_c4, kt_c8, kt_c9, kt_cm1, kt_c81, kt_c40, kt_c7, kt_c5, kt_c6, kt_c512, kt_c10, kt_c10000] at d_7
    exact kt_rv (q1, g1, g2, g3, g4) hx hb hr hlk hS dX7_spread_105 hP hD (by show ((0 ≤ q1.toInt ∧ q1.toInt ≤ (LW : Int)) ∧ kt_r g1 LW (-1) 2 ∧ kt_r g3 LW 0 ((LQ : Int) - 1)) ∧ ∀ s, s < T_ → kt_sol (-1) E_ (kt_lk U_ (fun e => (sr e).toInt.toNat) et_) (fun s => (g1 s).toInt) (fun s => (g2 s).toInt) s; exact ⟨⟨hqd, hwo, hqu⟩, hjh.fin het (by omega)⟩)
  · have d_7 := c_7
    simp only [kt_lt, kt_le, kt_eq, kt_c0, kt_c1, kt_c2, kt_c3, kt_c4, kt_c8, kt_c9, kt_cm1, kt_c81, kt_c40, kt_c7, kt_c5, kt_c6, kt_c512, kt_c10, kt_c10000] at d_7
    refine lv_iload_n hx hb dX7_spread_10 rfl (lv_at hl 0 rfl) ?_
    refine lv_aload_n hx hb dX7_spread_11 rfl (lv_at hl 1 rfl) ?_
    refine va_get (D := D) (ci := 7) (C := RX7) (T := TX7) (N := 15) hx hb hts iw_X7_spread_X7 hown hK hP 0 rfl rfl 10 (by decide) (hts (.fieldLink RX7 47 "KingTable$Solver" "queue" "[I") (List.mem_cons_of_mem _ (List.mem_append_left _ (List.mem_append_left _ (List.mem_cons_of_mem _ (List.Mem.head _)))))) (fun _ h9 => h9) rfl dX7_spread_12 ?_
    refine va_alen hx hb hK hP 3 0 rfl rfl (v := nI LW) rfl dX7_spread_15 ?_
    refine lv_icmp_ge (tgt := 105) hx hb dX7_spread_16 (by decide) (fun c_16 => ?_) (fun c_16 => ?_)
    · have d_16 := c_16
      simp only [kt_lt, kt_le, kt_eq, kt_c0, kt_c1, kt_c2, kt_c3, kt_c4, kt_c8, kt_c9, kt_cm1, kt_c81, kt_c40, kt_c7, kt_c5, kt_c6, kt_c512, kt_c10, kt_c10000] at d_16
      exact kt_rv (q1, g1, g2, g3, g4) hx hb hr hlk hS dX7_spread_105 hP hD (by show ((0 ≤ q1.toInt ∧ q1.toInt ≤ (LW : Int)) ∧ kt_r g1 LW (-1) 2 ∧ kt_r g3 LW 0 ((LQ : Int) - 1)) ∧ ∀ s, s < T_ → kt_sol (-1) E_ (kt_lk U_ (fun e => (sr e).toInt.toNat) et_) (fun s => (g1 s).toInt) (fun s => (g2 s).toInt) s; exact ⟨⟨hqd, hwo, hqu⟩, hjh.fin het (by omega)⟩)
    · have d_16 := c_16
      simp only [kt_lt, kt_le, kt_eq, kt_c0, kt_c1, kt_c2, kt_c3, kt_c4, kt_c8, kt_c9, kt_cm1, kt_c81, kt_c40, kt_c7, kt_c5, kt_c6, kt_c512, kt_c10, kt_c10000] at d_16
      refine lv_aload_n hx hb dX7_spread_19 rfl (lv_at hl 1 rfl) ?_
      refine va_get (D := D) (ci := 7) (C := RX7) (T := TX7) (N := 15) hx hb hts iw_X7_spread_X7 hown hK hP 0 rfl rfl 10 (by decide) (hts (.fieldLink RX7 47 "KingTable$Solver" "queue" "[I") (List.mem_cons_of_mem _ (List.mem_append_left _ (List.mem_append_left _ (List.mem_cons_of_mem _ (List.Mem.head _)))))) (fun _ h9 => h9) rfl dX7_spread_20 ?_
      refine lv_iload_n hx hb dX7_spread_23 rfl (lv_at hl 0 rfl) ?_
      have hi_1 : vp_in i LW := by exact kt_in (by omega) (by omega)
      refine va_iald hx hb hK hP 3 0 rfl rfl hi_1 dX7_spread_24 ?_
      refine lv_topi (fun a_24 ea_24 => ?_)
      have ra_24 := hqu.get hi_1
      rw [← ea_24] at ra_24
      have hiN : i.toInt.toNat < q1.toInt.toNat := by omega
      have htq : (g3 i.toInt.toNat).toInt.toNat = a_24.toInt.toNat := (congrArg (fun y : Int32 => y.toInt.toNat) ea_24).symm
      have hst := hjh.start hiN htq
      refine lv_istore_n (lv' := [(2, .int a_24), (1, .int i), (0, .ref so)]) hx hb dX7_spread_25 rfl hl (by decide) rfl (fun ls hl => ?_)
      refine lv_aload_n hx hb dX7_spread_26 rfl (lv_at hl 2 rfl) ?_
      refine va_get (D := D) (ci := 7) (C := RX7) (T := TX7) (N := 15) hx hb hts iw_X7_spread_X7 hown hK hP 0 rfl rfl 2 (by decide) (hts (.fieldLink RX7 21 "KingTable$Solver" "links" "LKingTable$Links;") (List.mem_cons_of_mem _ (List.mem_append_left _ (List.mem_append_left _ (List.mem_cons_of_mem _ (List.mem_cons_of_mem _ (List.Mem.head _))))))) (fun _ h9 => h9) rfl dX7_spread_27 ?_
      refine va_getN (D := D) (ci := 2) (C := RX2) (T := TX2) (N := 4) hx hb hts iw_X7_spread_X2 hown hK hP 5 rfl rfl 0 (by decide) (va_Nw.use (w := .fieldLinkNest RX7 180 "KingTable$Links" "heads" "[I" "KingTable") rfl (hN _ (by decide +kernel))) (fun _ h9 => h9) rfl dX7_spread_30 ?_
      refine lv_iload_n hx hb dX7_spread_33 rfl (lv_at hl 0 rfl) ?_
      have hi_2 : vp_in a_24 LH := by exact kt_in (by omega) (by omega)
      refine va_iald hx hb hK hP 6 0 rfl rfl hi_2 dX7_spread_34 ?_
      refine lv_topi (fun a_34 ea_34 => ?_)
      have ra_34 := hhe.get hi_2
      rw [← ea_34] at ra_34
      have i34 : a_34.toInt = kt_lst et_ a_24.toInt.toNat U_ := by rw [ea_34]; exact hli.1 a_24.toInt.toNat hst.1
      have hlr := kt_lst_r et_ a_24.toInt.toNat U_
      refine lv_istore_n (lv' := [(3, .int a_34), (2, .int a_24), (1, .int i), (0, .ref so)]) hx hb dX7_spread_35 rfl hl (by decide) rfl (fun ls hl => ?_)
      refine lv_iconst (v := 0) hx hb dX7_spread_36 (by decide) ?_
      refine lv_istore (lv' := [(4, .int 0), (3, .int a_34), (2, .int a_24), (1, .int i), (0, .ref so)]) hx hb dX7_spread_37 hl (by decide) rfl (fun ls hl => ?_)
      refine kt_loop (σ := Int32 × Int32 × Int32 × (Nat → Int32) × (Nat → Int32) × (Nat → Int32) × (Nat → Int32)) 39 5 (fun u => [(so, .inr (7, [.ref ru, .ref tr, .ref lk, .ref vp, .ref vd, .ref vt, .ref vg, .ref vw, .ref ve, .ref vo, .ref vq, .int u.2.2.1, .int pp, .int ct, .int sv])), (vw, .inl (cI, LW, .inl u.2.2.2.1)), (ve, .inl (cI, LW, .inl u.2.2.2.2.1)), (vq, .inl (cI, LW, .inl u.2.2.2.2.2.1)), (vo, .inl (cI, LW, .inl u.2.2.2.2.2.2)), (lk, .inr (2, [.ref kh, .ref ks, .ref kn, .int us])), (kh, .inl (cI, LH, .inl he)), (ks, .inl (cI, LS, .inl sr)), (kn, .inl (cI, LS, .inl ne))]) (fun u => [(4, .int u.1), (3, .int u.2.1), (2, .int a_24), (1, .int i), (0, .ref so)]) (fun n u => (0 ≤ u.1.toInt ∧ u.1.toInt ≤ (LS : Int) ∧ (LS : Int) < u.1.toInt + n) ∧ (-1 ≤ u.2.1.toInt ∧ u.2.1.toInt < (LS : Int)) ∧ (0 ≤ u.2.2.1.toInt ∧ u.2.2.1.toInt ≤ (LW : Int)) ∧ kt_r u.2.2.2.1 LW (-1) 2 ∧ kt_r u.2.2.2.2.2.1 LW 0 ((LQ : Int) - 1) ∧ kt_JC T_ U_ E_ et_ sr u.2.2.2.1 u.2.2.2.2.1 u.2.2.2.2.2.2 u.2.2.2.2.2.1 u.2.2.1.toInt.toNat i.toInt.toNat a_24.toInt.toNat u.2.1.toInt ∧ (i.toInt.toNat < u.2.2.1.toInt.toNat ∧ (u.2.2.2.2.2.1 i.toInt.toNat).toInt.toNat = a_24.toInt.toNat) ∧ (u.1.toInt + u.2.1.toInt + 1 ≤ (U_ : Int) ∧ (u.2.1.toInt = -1 ∨ (0 ≤ u.2.1.toInt ∧ et_ u.2.1.toInt.toNat = a_24.toInt.toNat)))) (fun u h => by omega) (fun n_39 ih_39 u hI H locs hP hD hS ls hl => ?_) (LS + 1) ((0 : Int32), a_34, q1, g1, g2, g3, g4) (by show (0 ≤ (0 : Int32).toInt ∧ (0 : Int32).toInt ≤ (LS : Int) ∧ (LS : Int) < (0 : Int32).toInt + (LS + 1)) ∧ (-1 ≤ a_34.toInt ∧ a_34.toInt < (LS : Int)) ∧ (0 ≤ q1.toInt ∧ q1.toInt ≤ (LW : Int)) ∧ kt_r g1 LW (-1) 2 ∧ kt_r g3 LW 0 ((LQ : Int) - 1) ∧ kt_JC T_ U_ E_ et_ sr g1 g2 g4 g3 q1.toInt.toNat i.toInt.toNat a_24.toInt.toNat a_34.toInt ∧ (i.toInt.toNat < q1.toInt.toNat ∧ (g3 i.toInt.toNat).toInt.toNat = a_24.toInt.toNat) ∧ ((0 : Int32).toInt + a_34.toInt + 1 ≤ (U_ : Int) ∧ (a_34.toInt = -1 ∨ (0 ≤ a_34.toInt ∧ et_ a_34.toInt.toNat = a_24.toInt.toNat))); exact ⟨⟨by decide, by rw [kt_c0]; omega, by rw [kt_c0]; omega⟩, by omega, hqd, hwo, hqu, by rw [i34]; exact hst.2, ⟨hiN, htq⟩, by rw [i34, kt_c0]; omega, by rw [i34]; exact hlr.2.2⟩) hP hD hS (lv_sub hl [0, 1, 2, 3, 4] rfl)
      obtain ⟨m_, ee, q2, h1, h2, h3, h4⟩ := u
      have hP : va_P D vwCl [(so, .inr (7, [.ref ru, .ref tr, .ref lk, .ref vp, .ref vd, .ref vt, .ref vg, .ref vw, .ref ve, .ref vo, .ref vq, .int q2, .int pp, .int ct, .int sv])), (vw, .inl (cI, LW, .inl h1)), (ve, .inl (cI, LW, .inl h2)), (vq, .inl (cI, LW, .inl h3)), (vo, .inl (cI, LW, .inl h4)), (lk, .inr (2, [.ref kh, .ref ks, .ref kn, .int us])), (kh, .inl (cI, LH, .inl he)), (ks, .inl (cI, LS, .inl sr)), (kn, .inl (cI, LS, .inl ne))] H := hP
      have hD : va_D A [(so, .inr (7, [.ref ru, .ref tr, .ref lk, .ref vp, .ref vd, .ref vt, .ref vg, .ref vw, .ref ve, .ref vo, .ref vq, .int q2, .int pp, .int ct, .int sv])), (vw, .inl (cI, LW, .inl h1)), (ve, .inl (cI, LW, .inl h2)), (vq, .inl (cI, LW, .inl h3)), (vo, .inl (cI, LW, .inl h4)), (lk, .inr (2, [.ref kh, .ref ks, .ref kn, .int us])), (kh, .inl (cI, LH, .inl he)), (ks, .inl (cI, LS, .inl sr)), (kn, .inl (cI, LS, .inl ne))] := hD
      have hl : lv_has ls 5 [(4, .int m_), (3, .int ee), (2, .int a_24), (1, .int i), (0, .ref so)] := hl
      have hI : (0 ≤ m_.toInt ∧ m_.toInt ≤ (LS : Int) ∧ (LS : Int) < m_.toInt + (n_39 + 1)) ∧ (-1 ≤ ee.toInt ∧ ee.toInt < (LS : Int)) ∧ (0 ≤ q2.toInt ∧ q2.toInt ≤ (LW : Int)) ∧ kt_r h1 LW (-1) 2 ∧ kt_r h3 LW 0 ((LQ : Int) - 1) ∧ kt_JC T_ U_ E_ et_ sr h1 h2 h4 h3 q2.toInt.toNat i.toInt.toNat a_24.toInt.toNat ee.toInt ∧ (i.toInt.toNat < q2.toInt.toNat ∧ (h3 i.toInt.toNat).toInt.toNat = a_24.toInt.toNat) ∧ (m_.toInt + ee.toInt + 1 ≤ (U_ : Int) ∧ (ee.toInt = -1 ∨ (0 ≤ ee.toInt ∧ et_ ee.toInt.toNat = a_24.toInt.toNat))) := hI
      obtain ⟨hmb, hee, hqd, hwo, hqu, hjc, ⟨hiN, htq⟩, hme, hch⟩ := hI
      refine lv_iload hx hb dX7_spread_39 (lv_at hl 0 rfl) ?_
      refine lv_aload_n hx hb dX7_spread_41 rfl (lv_at hl 4 rfl) ?_
      refine va_get (D := D) (ci := 7) (C := RX7) (T := TX7) (N := 15) hx hb hts iw_X7_spread_X7 hown hK hP 0 rfl rfl 2 (by decide) (hts (.fieldLink RX7 21 "KingTable$Solver" "links" "LKingTable$Links;") (List.mem_cons_of_mem _ (List.mem_append_left _ (List.mem_append_left _ (List.mem_cons_of_mem _ (List.mem_cons_of_mem _ (List.Mem.head _))))))) (fun _ h9 => h9) rfl dX7_spread_42 ?_
      refine va_getN (D := D) (ci := 2) (C := RX2) (T := TX2) (N := 4) hx hb hts iw_X7_spread_X2 hown hK hP 5 rfl rfl 3 (by decide) (va_Nw.use (w := .fieldLinkNest RX7 183 "KingTable$Links" "used" "I" "KingTable") rfl (hN _ (by decide +kernel))) (fun _ h9 => h9) rfl dX7_spread_45 ?_
      refine lv_icmp_ge (tgt := 99) hx hb dX7_spread_48 (by decide) (fun c_48 => ?_) (fun c_48 => ?_)
      · have d_48 := c_48
        simp only [kt_lt, kt_le, kt_eq, kt_c0, kt_c1, kt_c2, kt_c3, kt_c4, kt_c8, kt_c9, kt_cm1, kt_c81, kt_c40, kt_c7, kt_c5, kt_c6, kt_c512, kt_c10, kt_c10000] at d_48
        first | (have hee1 : ee.toInt = -1 := by omega) | (have hee1 : ee.toInt = -1 := hch.elim id (fun h => by omega))
        obtain ⟨t_99, et_99⟩ : ∃ y : Int32, y = i + 1 := ⟨_, rfl⟩
        obtain ⟨k_99, hk_99, hm_99, hM_99⟩ := kt_addk et_99
        try simp only [kt_c0, kt_c1, kt_c2, kt_c3, kt_c4, kt_c8, kt_c9, kt_cm1, kt_c81, kt_c40, kt_c7, kt_c5, kt_c6, kt_c512, kt_c10, kt_c10000] at hk_99
        refine lv_iinc (v := t_99) (lv' := [(1, .int t_99), (4, .int m_), (3, .int ee), (2, .int a_24), (0, .ref so)]) hx hb dX7_spread_99 hl (k := 3) rfl (by rw [et_99]; rfl) (by decide) rfl (fun ls hl => ?_)
        refine lv_goto (tgt := 2) hx hb dX7_spread_102 (by decide) ?_
        exact ih_2 (t_99, q2, h1, h2, h3, h4) (by show (0 ≤ t_99.toInt ∧ t_99.toInt ≤ (LW : Int) ∧ (LW : Int) < t_99.toInt + n_2) ∧ (0 ≤ q2.toInt ∧ q2.toInt ≤ (LW : Int)) ∧ kt_r h1 LW (-1) 2 ∧ kt_r h3 LW 0 ((LQ : Int) - 1) ∧ kt_JH T_ U_ E_ et_ sr h1 h2 h4 h3 q2.toInt.toNat t_99.toInt.toNat; exact ⟨by omega, hqd, hwo, hqu, by rw [show t_99.toInt.toNat = i.toInt.toNat + 1 by omega]; exact hjc.stop hiN htq (by omega)⟩) H _ hP hD hS ls (lv_sub hl [0, 4] rfl)
      · have d_48 := c_48
        simp only [kt_lt, kt_le, kt_eq, kt_c0, kt_c1, kt_c2, kt_c3, kt_c4, kt_c8, kt_c9, kt_cm1, kt_c81, kt_c40, kt_c7, kt_c5, kt_c6, kt_c512, kt_c10, kt_c10000] at d_48
        refine lv_iload_n hx hb dX7_spread_51 rfl (lv_at hl 1 rfl) ?_
        refine lv_iconst (v := (-1)) hx hb dX7_spread_52 (by decide) ?_
        refine lv_icmp_eq (tgt := 99) hx hb dX7_spread_53 (by decide) (fun c_53 => ?_) (fun c_53 => ?_)
        · have d_53 := c_53
          simp only [kt_lt, kt_le, kt_eq, kt_c0, kt_c1, kt_c2, kt_c3, kt_c4, kt_c8, kt_c9, kt_cm1, kt_c81, kt_c40, kt_c7, kt_c5, kt_c6, kt_c512, kt_c10, kt_c10000] at d_53
          first | (have hee1 : ee.toInt = -1 := by omega) | (have hee1 : ee.toInt = -1 := hch.elim id (fun h => by omega))
          obtain ⟨t_99, et_99⟩ : ∃ y : Int32, y = i + 1 := ⟨_, rfl⟩
          obtain ⟨k_99, hk_99, hm_99, hM_99⟩ := kt_addk et_99
          try simp only [kt_c0, kt_c1, kt_c2, kt_c3, kt_c4, kt_c8, kt_c9, kt_cm1, kt_c81, kt_c40, kt_c7, kt_c5, kt_c6, kt_c512, kt_c10, kt_c10000] at hk_99
          refine lv_iinc (v := t_99) (lv' := [(1, .int t_99), (4, .int m_), (3, .int ee), (2, .int a_24), (0, .ref so)]) hx hb dX7_spread_99 hl (k := 3) rfl (by rw [et_99]; rfl) (by decide) rfl (fun ls hl => ?_)
          refine lv_goto (tgt := 2) hx hb dX7_spread_102 (by decide) ?_
          exact ih_2 (t_99, q2, h1, h2, h3, h4) (by show (0 ≤ t_99.toInt ∧ t_99.toInt ≤ (LW : Int) ∧ (LW : Int) < t_99.toInt + n_2) ∧ (0 ≤ q2.toInt ∧ q2.toInt ≤ (LW : Int)) ∧ kt_r h1 LW (-1) 2 ∧ kt_r h3 LW 0 ((LQ : Int) - 1) ∧ kt_JH T_ U_ E_ et_ sr h1 h2 h4 h3 q2.toInt.toNat t_99.toInt.toNat; exact ⟨by omega, hqd, hwo, hqu, by rw [show t_99.toInt.toNat = i.toInt.toNat + 1 by omega]; exact hjc.stop hiN htq (by omega)⟩) H _ hP hD hS ls (lv_sub hl [0, 4] rfl)
        · have d_53 := c_53
          simp only [kt_lt, kt_le, kt_eq, kt_c0, kt_c1, kt_c2, kt_c3, kt_c4, kt_c8, kt_c9, kt_cm1, kt_c81, kt_c40, kt_c7, kt_c5, kt_c6, kt_c512, kt_c10, kt_c10000] at d_53
          refine lv_aload_n hx hb dX7_spread_56 rfl (lv_at hl 4 rfl) ?_
          refine lv_aload_n hx hb dX7_spread_57 rfl (lv_at hl 4 rfl) ?_
          refine va_get (D := D) (ci := 7) (C := RX7) (T := TX7) (N := 15) hx hb hts iw_X7_spread_X7 hown hK hP 0 rfl rfl 2 (by decide) (hts (.fieldLink RX7 21 "KingTable$Solver" "links" "LKingTable$Links;") (List.mem_cons_of_mem _ (List.mem_append_left _ (List.mem_append_left _ (List.mem_cons_of_mem _ (List.mem_cons_of_mem _ (List.Mem.head _))))))) (fun _ h9 => h9) rfl dX7_spread_58 ?_
          refine va_getN (D := D) (ci := 2) (C := RX2) (T := TX2) (N := 4) hx hb hts iw_X7_spread_X2 hown hK hP 5 rfl rfl 1 (by decide) (va_Nw.use (w := .fieldLinkNest RX7 186 "KingTable$Links" "sources" "[I" "KingTable") rfl (hN _ (by decide +kernel))) (fun _ h9 => h9) rfl dX7_spread_61 ?_
          have hee0 : 0 ≤ ee.toInt ∧ et_ ee.toInt.toNat = a_24.toInt.toNat := hch.elim (fun h => absurd h (by omega)) id
          have hmU : ee.toInt.toNat < U_ := by omega
          refine lv_iload_n hx hb dX7_spread_64 rfl (lv_at hl 1 rfl) ?_
          have hi_3 : vp_in ee LS := by exact kt_in (by omega) (by omega)
          refine va_iald hx hb hK hP 7 0 rfl rfl hi_3 dX7_spread_65 ?_
          refine lv_topi (fun a_65 ea_65 => ?_)
          have ra_65 := hsr.get hi_3
          rw [← ea_65] at ra_65
          have hs65 : a_65.toInt.toNat < T_ := by rw [ea_65]; exact hes ee.toInt.toNat hmU
          have hops := fun h2 => hjc.ops hs65 h2
          have hyk := hjc.yk hiN htq
          refine lv_aload_n hx hb dX7_spread_66 rfl (lv_at hl 4 rfl) ?_
          refine va_get (D := D) (ci := 7) (C := RX7) (T := TX7) (N := 15) hx hb hts iw_X7_spread_X7 hown hK hP 0 rfl rfl 7 (by decide) (hts (.fieldLink RX7 38 "KingTable$Solver" "worths" "[I") (List.mem_cons_of_mem _ (List.mem_append_left _ (List.mem_append_left _ (List.mem_cons_of_mem _ (List.mem_cons_of_mem _ (List.mem_cons_of_mem _ (List.Mem.head _)))))))) (fun _ h9 => h9) rfl dX7_spread_67 ?_
          refine lv_iload_n hx hb dX7_spread_70 rfl (lv_at hl 2 rfl) ?_
          have hi_4 : vp_in a_24 LW := by exact kt_in (by omega) (by omega)
          refine va_iald hx hb hK hP 1 0 rfl rfl hi_4 dX7_spread_71 ?_
          refine lv_topi (fun a_71 ea_71 => ?_)
          have ra_71 := hwo.get hi_4
          rw [← ea_71] at ra_71
          refine lv_aload_n hx hb dX7_spread_72 rfl (lv_at hl 4 rfl) ?_
          refine va_get (D := D) (ci := 7) (C := RX7) (T := TX7) (N := 15) hx hb hts iw_X7_spread_X7 hown hK hP 0 rfl rfl 8 (by decide) (hts (.fieldLink RX7 41 "KingTable$Solver" "deeps" "[I") (List.mem_cons_of_mem _ (List.mem_append_left _ (List.mem_append_left _ (List.mem_cons_of_mem _ (List.mem_cons_of_mem _ (List.mem_cons_of_mem _ (List.mem_cons_of_mem _ (List.Mem.head _))))))))) (fun _ h9 => h9) rfl dX7_spread_73 ?_
          refine lv_iload_n hx hb dX7_spread_76 rfl (lv_at hl 2 rfl) ?_
          have hi_5 : vp_in a_24 LW := by exact kt_in (by omega) (by omega)
          refine va_iald hx hb hK hP 2 0 rfl rfl hi_5 dX7_spread_77 ?_
          refine lv_topi (fun a_77 ea_77 => ?_)
          have i77 : a_77.toInt = (h2 a_24.toInt.toNat).toInt := congrArg Int32.toInt ea_77
          refine lv_iconst (v := 1) hx hb dX7_spread_78 (by decide) ?_
          refine lv_iadd hx hb dX7_spread_79 ?_
          refine lv_topi (fun t_79 et_79 => ?_)
          first | have hk_79 := kt_addx et_79 (by first | omega | (simp only [kt_c0, kt_c1, kt_c2, kt_c3, kt_c4, kt_c8, kt_c9, kt_cm1, kt_c81, kt_c40, kt_c7, kt_c5, kt_c6, kt_c512, kt_c10, kt_c10000]; omega)) (by first | omega | (simp only [kt_c0, kt_c1, kt_c2, kt_c3, kt_c4, kt_c8, kt_c9, kt_cm1, kt_c81, kt_c40, kt_c7, kt_c5, kt_c6, kt_c512, kt_c10, kt_c10000]; omega)) | obtain ⟨k_79, hk_79, hm_79, hM_79⟩ := kt_addk et_79
          try simp only [kt_c0, kt_c1, kt_c2, kt_c3, kt_c4, kt_c8, kt_c9, kt_cm1, kt_c81, kt_c40, kt_c7, kt_c5, kt_c6, kt_c512, kt_c10, kt_c10000] at hk_79
          refine kt_bv (wc := [(so, .inr (7, [.ref ru, .ref tr, .ref lk, .ref vp, .ref vd, .ref vt, .ref vg, .ref vw, .ref ve, .ref vo, .ref vq, .int q2, .int pp, .int ct, .int sv])), (vw, .inl (cI, LW, .inl h1)), (ve, .inl (cI, LW, .inl h2)), (vq, .inl (cI, LW, .inl h3)), (vo, .inl (cI, LW, .inl h4))]) (wr := [(lk, .inr (2, [.ref kh, .ref ks, .ref kn, .int us])), (kh, .inl (cI, LH, .inl he)), (ks, .inl (cI, LS, .inl sr)), (kn, .inl (cI, LS, .inl ne))]) [0, 1, 2, 3, 4] [5, 6, 7, 8] hP hD hS hA rfl rfl (by decide) (by decide) (by decide) (fun hPc hDc => va_runV (As := [.int a_65, .int a_71, .int t_79]) (rest := []) ⟨hx, hb, hml, hown, hts⟩ (c_X7_informE l D cI cZ cB H.size so ru tr lk vp vd vt vg vw ve vo vq q2 pp ct sv LW LH LS LQ h1 h2 h3 h4 a_65 a_71 t_79 hlw hlh hls hlq hqd hwo hqu (by omega) (by omega) (fun h => by have h5 := hops h; omega)) (cwV 3 hts gX7_spread_X7_inform rfl rfl rfl (by decide +kernel) ⟨Nat.le_of_ble_eq_true rfl, Nat.le_of_ble_eq_true rfl⟩) (kt_preV hN hK hPc hDc 0 (ci := 7) (q := (RX7, TX7, 15)) rfl rfl) rfl rfl hl.1 rfl (lv_room (Nat.le_of_ble_eq_true rfl)) dX7_spread_80 ⟨Nat.le_of_ble_eq_true rfl, Nat.le_of_ble_eq_true rfl⟩) (fun u_ H locs hw_80 hP hD hS => ?_)
          obtain ⟨qd2_80, wo2_80, de2_80, qu2_80, op2_80⟩ := u_
          have hP : va_P D vwCl [(so, .inr (7, [.ref ru, .ref tr, .ref lk, .ref vp, .ref vd, .ref vt, .ref vg, .ref vw, .ref ve, .ref vo, .ref vq, .int qd2_80, .int pp, .int ct, .int sv])), (vw, .inl (cI, LW, .inl wo2_80)), (ve, .inl (cI, LW, .inl de2_80)), (vq, .inl (cI, LW, .inl qu2_80)), (vo, .inl (cI, LW, .inl op2_80)), (lk, .inr (2, [.ref kh, .ref ks, .ref kn, .int us])), (kh, .inl (cI, LH, .inl he)), (ks, .inl (cI, LS, .inl sr)), (kn, .inl (cI, LS, .inl ne))] H := hP.sub [4, 5, 6, 7, 8, 0, 1, 2, 3] rfl
          have hD : va_D A [(so, .inr (7, [.ref ru, .ref tr, .ref lk, .ref vp, .ref vd, .ref vt, .ref vg, .ref vw, .ref ve, .ref vo, .ref vq, .int qd2_80, .int pp, .int ct, .int sv])), (vw, .inl (cI, LW, .inl wo2_80)), (ve, .inl (cI, LW, .inl de2_80)), (vq, .inl (cI, LW, .inl qu2_80)), (vo, .inl (cI, LW, .inl op2_80)), (lk, .inr (2, [.ref kh, .ref ks, .ref kn, .int us])), (kh, .inl (cI, LH, .inl he)), (ks, .inl (cI, LS, .inl sr)), (kn, .inl (cI, LS, .inl ne))] := hD.sub [4, 5, 6, 7, 8, 0, 1, 2, 3] (by decide) rfl
          try dsimp only at hw_80
          obtain ⟨⟨hqd, hwo, hqu⟩, hinf⟩ := hw_80
          have hs80 : (kt_JC T_ U_ E_ et_ sr wo2_80 de2_80 op2_80 qu2_80 qd2_80.toInt.toNat i.toInt.toNat a_24.toInt.toNat (kt_lst et_ a_24.toInt.toNat ee.toInt.toNat) ∧ i.toInt.toNat < qd2_80.toInt.toNat ∧ (qu2_80 i.toInt.toNat).toInt.toNat = a_24.toInt.toNat ∧ 0 ≤ qd2_80.toInt) := hjc.step (m := ee.toInt.toNat) het (by omega) hiN htq (by omega) hmU hee0.2 ea_65 hs65 ea_71 (by omega) hinf
          have hs80 := And.intro hs80.1 (And.intro hs80.2.1 hs80.2.2.1)
          refine lv_aload_n hx hb dX7_spread_83 rfl (lv_at hl 4 rfl) ?_
          refine va_get (D := D) (ci := 7) (C := RX7) (T := TX7) (N := 15) hx hb hts iw_X7_spread_X7 hown hK hP 0 rfl rfl 2 (by decide) (hts (.fieldLink RX7 21 "KingTable$Solver" "links" "LKingTable$Links;") (List.mem_cons_of_mem _ (List.mem_append_left _ (List.mem_append_left _ (List.mem_cons_of_mem _ (List.mem_cons_of_mem _ (List.Mem.head _))))))) (fun _ h9 => h9) rfl dX7_spread_84 ?_
          refine va_getN (D := D) (ci := 2) (C := RX2) (T := TX2) (N := 4) hx hb hts iw_X7_spread_X2 hown hK hP 5 rfl rfl 2 (by decide) (va_Nw.use (w := .fieldLinkNest RX7 192 "KingTable$Links" "nexts" "[I" "KingTable") rfl (hN _ (by decide +kernel))) (fun _ h9 => h9) rfl dX7_spread_87 ?_
          refine lv_iload_n hx hb dX7_spread_90 rfl (lv_at hl 1 rfl) ?_
          have hi_6 : vp_in ee LS := by exact kt_in (by omega) (by omega)
          refine va_iald hx hb hK hP 8 0 rfl rfl hi_6 dX7_spread_91 ?_
          refine lv_topi (fun a_91 ea_91 => ?_)
          have ra_91 := hne.get hi_6
          rw [← ea_91] at ra_91
          have h91 := hli.2.1 ee.toInt.toNat hmU
          rw [hee0.2] at h91
          have i91 : a_91.toInt = kt_lst et_ a_24.toInt.toNat ee.toInt.toNat := by rw [ea_91]; exact h91
          have hlr2 := kt_lst_r et_ a_24.toInt.toNat ee.toInt.toNat
          refine lv_istore_n (lv' := [(3, .int a_91), (4, .int m_), (2, .int a_24), (1, .int i), (0, .ref so)]) hx hb dX7_spread_92 rfl hl (by decide) rfl (fun ls hl => ?_)
          obtain ⟨t_93, et_93⟩ : ∃ y : Int32, y = m_ + 1 := ⟨_, rfl⟩
          obtain ⟨k_93, hk_93, hm_93, hM_93⟩ := kt_addk et_93
          try simp only [kt_c0, kt_c1, kt_c2, kt_c3, kt_c4, kt_c8, kt_c9, kt_cm1, kt_c81, kt_c40, kt_c7, kt_c5, kt_c6, kt_c512, kt_c10, kt_c10000] at hk_93
          refine lv_iinc (v := t_93) (lv' := [(4, .int t_93), (3, .int a_91), (2, .int a_24), (1, .int i), (0, .ref so)]) hx hb dX7_spread_93 hl (k := 1) rfl (by rw [et_93]; rfl) (by decide) rfl (fun ls hl => ?_)
          refine lv_goto (tgt := 39) hx hb dX7_spread_96 (by decide) ?_
          exact ih_39 (t_93, a_91, qd2_80, wo2_80, de2_80, qu2_80, op2_80) (by show (0 ≤ t_93.toInt ∧ t_93.toInt ≤ (LS : Int) ∧ (LS : Int) < t_93.toInt + n_39) ∧ (-1 ≤ a_91.toInt ∧ a_91.toInt < (LS : Int)) ∧ (0 ≤ qd2_80.toInt ∧ qd2_80.toInt ≤ (LW : Int)) ∧ kt_r wo2_80 LW (-1) 2 ∧ kt_r qu2_80 LW 0 ((LQ : Int) - 1) ∧ kt_JC T_ U_ E_ et_ sr wo2_80 de2_80 op2_80 qu2_80 qd2_80.toInt.toNat i.toInt.toNat a_24.toInt.toNat a_91.toInt ∧ (i.toInt.toNat < qd2_80.toInt.toNat ∧ (qu2_80 i.toInt.toNat).toInt.toNat = a_24.toInt.toNat) ∧ (t_93.toInt + a_91.toInt + 1 ≤ (U_ : Int) ∧ (a_91.toInt = -1 ∨ (0 ≤ a_91.toInt ∧ et_ a_91.toInt.toNat = a_24.toInt.toNat))); exact ⟨by omega, by omega, hqd, hwo, hqu, by rw [i91]; exact hs80.1, hs80.2, by rw [i91]; omega, by rw [i91]; exact hlr2.2.2⟩) H _ hP hD hS ls (lv_sub hl [0, 1, 2, 3, 4] rfl)
