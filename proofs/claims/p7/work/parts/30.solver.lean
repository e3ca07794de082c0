theorem iw_X2_add_X2 : ∀ w ∈ wsX20, w ∈ wsX2_add := fun _ h => kt_wp_X2_add__X20 h
set_option maxHeartbeats 4000000 in
set_option maxRecDepth 100000 in
theorem c_X2_add (l : Launch) (D : va_G) (cI cZ cB : ClassId) (sz : Nat) (lk : Nat) (kh : Nat) (ks : Nat) (kn : Nat) (us : Int32) (LW : Nat) (LH : Nat) (LS : Nat) (LQ : Nat) (he : Nat → Int32) (sr : Nat → Int32) (ne : Nat → Int32) (p1 : Int32) (p2 : Int32) (hlw : LW ≤ 10000) (hlh : LH ≤ 10000) (hls : LS ≤ 4000000) (hlq : LQ ≤ LW ∧ LQ ≤ LH) (hus : 0 ≤ us.toInt ∧ us.toInt ≤ (LS : Int)) (hhe : kt_r he LH (-1) ((LS : Int) - 1)) (hsr : kt_r sr LS 0 ((LQ : Int) - 1)) (hne : kt_r ne LS (-1) ((LS : Int) - 1)) (hp1 : 0 ≤ p1.toInt ∧ p1.toInt < (LQ : Int)) : kt_Mv l yX2_add wsX2_add { frames := 0, cells := 0, slots := 0, locals := 0 } D (kt_ty cI cZ cB) [.ref lk, .int p1, .int p2] sz [(lk, .inr (2, [.ref kh, .ref ks, .ref kn, .int us])), (kh, .inl (cI, LH, .inl he)), (ks, .inl (cI, LS, .inl sr)), (kn, .inl (cI, LS, .inl ne))] (fun (u : Int32 × (Nat → Int32) × (Nat → Int32) × (Nat → Int32)) => (0 ≤ u.1.toInt ∧ u.1.toInt ≤ (LS : Int)) ∧ kt_r u.2.1 LH (-1) ((LS : Int) - 1) ∧ kt_r u.2.2.1 LS 0 ((LQ : Int) - 1) ∧ kt_r u.2.2.2 LS (-1) ((LS : Int) - 1)) (fun (u : Int32 × (Nat → Int32) × (Nat → Int32) × (Nat → Int32)) => [(lk, .inr (2, [.ref kh, .ref ks, .ref kn, .int u.1])), (kh, .inl (cI, LH, .inl u.2.1)), (ks, .inl (cI, LS, .inl u.2.2.1)), (kn, .inl (cI, LS, .inl u.2.2.2))]) 0 0 := by
  refine kt_Mv.of (cc := cX2_add) (maxL := 3) (ret := none) (by decide) rfl (Nat.le_of_ble_eq_true rfl) ?_
  intro p e s m below meth c A ls H hAt hP hD hS hl
  obtain ⟨hx, hb, hr, hml, hown, hts, hN, hK, hlk, hnm, hA⟩ := hAt
  have hl : lv_has ls 3 [(0, .ref lk), (1, .int p1), (2, .int p2)] := hl
  have hown : s.vm.findClass RX2 = some m.cls := hown
  have hLWi : (nI LW).toInt = (LW : Int) := kt_nI (by omega)
  have hLHi : (nI LH).toInt = (LH : Int) := kt_nI (by omega)
  have hLSi : (nI LS).toInt = (LS : Int) := kt_nI (by omega)
  refine lv_aload_n hx hb dX2_add_0 rfl (lv_at hl 0 rfl) ?_
  refine va_get (D := D) (ci := 2) (C := RX2) (T := TX2) (N := 4) hx hb hts iw_X2_add_X2 hown hK hP 0 rfl rfl 3 (by decide) (hts (.fieldLink RX2 32 "KingTable$Links" "used" "I") (List.mem_cons_of_mem _ (List.mem_append_left _ (List.Mem.head _)))) (fun _ h9 => h9) rfl dX2_add_1 ?_
  refine lv_aload_n hx hb dX2_add_4 rfl (lv_at hl 0 rfl) ?_
  refine va_get (D := D) (ci := 2) (C := RX2) (T := TX2) (N := 4) hx hb hts iw_X2_add_X2 hown hK hP 0 rfl rfl 1 (by decide) (hts (.fieldLink RX2 15 "KingTable$Links" "sources" "[I") (List.mem_cons_of_mem _ (List.mem_append_left _ (List.mem_cons_of_mem _ (List.Mem.head _))))) (fun _ h9 => h9) rfl dX2_add_5 ?_
  refine va_alen hx hb hK hP 2 0 rfl rfl (v := nI LS) rfl dX2_add_8 ?_
  refine lv_icmp_ge (tgt := 70) hx hb dX2_add_9 (by decide) (fun c_9 => ?_) (fun c_9 => ?_)
  · have d_9 := c_9
    simp only [kt_lt, kt_le, kt_eq, kt_c0, kt_c1, kt_c2, kt_c3, kt_c4, kt_c8, kt_c9, kt_cm1, kt_c81, kt_c40, kt_c7, kt_c5, kt_c6, kt_c512, kt_c10, kt_c10000] at d_9
    exact kt_rv (us, he, sr, ne) hx hb hr hlk hS dX2_add_70 hP hD (by show (0 ≤ us.toInt ∧ us.toInt ≤ (LS : Int)) ∧ kt_r he LH (-1) ((LS : Int) - 1) ∧ kt_r sr LS 0 ((LQ : Int) - 1) ∧ kt_r ne LS (-1) ((LS : Int) - 1); exact ⟨by omega, hhe, hsr, hne⟩)
  · have d_9 := c_9
    simp only [kt_lt, kt_le, kt_eq, kt_c0, kt_c1, kt_c2, kt_c3, kt_c4, kt_c8, kt_c9, kt_cm1, kt_c81, kt_c40, kt_c7, kt_c5, kt_c6, kt_c512, kt_c10, kt_c10000] at d_9
    refine lv_iload_n hx hb dX2_add_12 rfl (lv_at hl 2 rfl) ?_
    refine lv_if_lt (tgt := 70) hx hb dX2_add_13 (by decide) (fun c_13 => ?_) (fun c_13 => ?_)
    · have d_13 := c_13
      simp only [kt_lt, kt_le, kt_eq, kt_c0, kt_c1, kt_c2, kt_c3, kt_c4, kt_c8, kt_c9, kt_cm1, kt_c81, kt_c40, kt_c7, kt_c5, kt_c6, kt_c512, kt_c10, kt_c10000] at d_13
      exact kt_rv (us, he, sr, ne) hx hb hr hlk hS dX2_add_70 hP hD (by show (0 ≤ us.toInt ∧ us.toInt ≤ (LS : Int)) ∧ kt_r he LH (-1) ((LS : Int) - 1) ∧ kt_r sr LS 0 ((LQ : Int) - 1) ∧ kt_r ne LS (-1) ((LS : Int) - 1); exact ⟨by omega, hhe, hsr, hne⟩)
    · have d_13 := c_13
      simp only [kt_lt, kt_le, kt_eq, kt_c0, kt_c1, kt_c2, kt_c3, kt_c4, kt_c8, kt_c9, kt_cm1, kt_c81, kt_c40, kt_c7, kt_c5, kt_c6, kt_c512, kt_c10, kt_c10000] at d_13
      refine lv_iload_n hx hb dX2_add_16 rfl (lv_at hl 2 rfl) ?_
      refine lv_aload_n hx hb dX2_add_17 rfl (lv_at hl 0 rfl) ?_
      refine va_get (D := D) (ci := 2) (C := RX2) (T := TX2) (N := 4) hx hb hts iw_X2_add_X2 hown hK hP 0 rfl rfl 0 (by decide) (hts (.fieldLink RX2 9 "KingTable$Links" "heads" "[I") (List.mem_cons_of_mem _ (List.mem_append_left _ (List.mem_cons_of_mem _ (List.mem_cons_of_mem _ (List.Mem.head _)))))) (fun _ h9 => h9) rfl dX2_add_18 ?_
      refine va_alen hx hb hK hP 1 0 rfl rfl (v := nI LH) rfl dX2_add_21 ?_
      refine lv_icmp_ge (tgt := 70) hx hb dX2_add_22 (by decide) (fun c_22 => ?_) (fun c_22 => ?_)
      · have d_22 := c_22
        simp only [kt_lt, kt_le, kt_eq, kt_c0, kt_c1, kt_c2, kt_c3, kt_c4, kt_c8, kt_c9, kt_cm1, kt_c81, kt_c40, kt_c7, kt_c5, kt_c6, kt_c512, kt_c10, kt_c10000] at d_22
        exact kt_rv (us, he, sr, ne) hx hb hr hlk hS dX2_add_70 hP hD (by show (0 ≤ us.toInt ∧ us.toInt ≤ (LS : Int)) ∧ kt_r he LH (-1) ((LS : Int) - 1) ∧ kt_r sr LS 0 ((LQ : Int) - 1) ∧ kt_r ne LS (-1) ((LS : Int) - 1); exact ⟨by omega, hhe, hsr, hne⟩)
      · have d_22 := c_22
        simp only [kt_lt, kt_le, kt_eq, kt_c0, kt_c1, kt_c2, kt_c3, kt_c4, kt_c8, kt_c9, kt_cm1, kt_c81, kt_c40, kt_c7, kt_c5, kt_c6, kt_c512, kt_c10, kt_c10000] at d_22
        refine lv_aload_n hx hb dX2_add_25 rfl (lv_at hl 0 rfl) ?_
        refine va_get (D := D) (ci := 2) (C := RX2) (T := TX2) (N := 4) hx hb hts iw_X2_add_X2 hown hK hP 0 rfl rfl 1 (by decide) (hts (.fieldLink RX2 15 "KingTable$Links" "sources" "[I") (List.mem_cons_of_mem _ (List.mem_append_left _ (List.mem_cons_of_mem _ (List.Mem.head _))))) (fun _ h9 => h9) rfl dX2_add_26 ?_
        refine lv_aload_n hx hb dX2_add_29 rfl (lv_at hl 0 rfl) ?_
        refine va_get (D := D) (ci := 2) (C := RX2) (T := TX2) (N := 4) hx hb hts iw_X2_add_X2 hown hK hP 0 rfl rfl 3 (by decide) (hts (.fieldLink RX2 32 "KingTable$Links" "used" "I") (List.mem_cons_of_mem _ (List.mem_append_left _ (List.Mem.head _)))) (fun _ h9 => h9) rfl dX2_add_30 ?_
        refine lv_iload_n hx hb dX2_add_33 rfl (lv_at hl 1 rfl) ?_
        have hi_1 : vp_in us LS := by exact kt_in (by omega) (by omega)
        refine va_iast hx hb hK hP hD hS 2 0 rfl rfl hi_1 dX2_add_34 (fun H locs hP hD hS => ?_)
        have hsr : kt_r (upd sr us.toNatClampNeg p1) LS 0 ((LQ : Int) - 1) := hsr.upd (by omega) (by omega)
        have hP : va_P D vwCl [(lk, .inr (2, [.ref kh, .ref ks, .ref kn, .int us])), (kh, .inl (cI, LH, .inl he)), (ks, .inl (cI, LS, .inl (upd sr us.toNatClampNeg p1))), (kn, .inl (cI, LS, .inl ne))] H := hP
        have hD : va_D A [(lk, .inr (2, [.ref kh, .ref ks, .ref kn, .int us])), (kh, .inl (cI, LH, .inl he)), (ks, .inl (cI, LS, .inl (upd sr us.toNatClampNeg p1))), (kn, .inl (cI, LS, .inl ne))] := hD
        refine lv_aload_n hx hb dX2_add_35 rfl (lv_at hl 0 rfl) ?_
        refine va_get (D := D) (ci := 2) (C := RX2) (T := TX2) (N := 4) hx hb hts iw_X2_add_X2 hown hK hP 0 rfl rfl 2 (by decide) (hts (.fieldLink RX2 18 "KingTable$Links" "nexts" "[I") (List.mem_cons_of_mem _ (List.mem_append_left _ (List.mem_cons_of_mem _ (List.mem_cons_of_mem _ (List.mem_cons_of_mem _ (List.Mem.head _))))))) (fun _ h9 => h9) rfl dX2_add_36 ?_
        refine lv_aload_n hx hb dX2_add_39 rfl (lv_at hl 0 rfl) ?_
        refine va_get (D := D) (ci := 2) (C := RX2) (T := TX2) (N := 4) hx hb hts iw_X2_add_X2 hown hK hP 0 rfl rfl 3 (by decide) (hts (.fieldLink RX2 32 "KingTable$Links" "used" "I") (List.mem_cons_of_mem _ (List.mem_append_left _ (List.Mem.head _)))) (fun _ h9 => h9) rfl dX2_add_40 ?_
        refine lv_aload_n hx hb dX2_add_43 rfl (lv_at hl 0 rfl) ?_
        refine va_get (D := D) (ci := 2) (C := RX2) (T := TX2) (N := 4) hx hb hts iw_X2_add_X2 hown hK hP 0 rfl rfl 0 (by decide) (hts (.fieldLink RX2 9 "KingTable$Links" "heads" "[I") (List.mem_cons_of_mem _ (List.mem_append_left _ (List.mem_cons_of_mem _ (List.mem_cons_of_mem _ (List.Mem.head _)))))) (fun _ h9 => h9) rfl dX2_add_44 ?_
        refine lv_iload_n hx hb dX2_add_47 rfl (lv_at hl 2 rfl) ?_
        have hi_2 : vp_in p2 LH := by exact kt_in (by omega) (by omega)
        refine va_iald hx hb hK hP 1 0 rfl rfl hi_2 dX2_add_48 ?_
        refine lv_topi (fun a_48 ea_48 => ?_)
        have ra_48 := hhe.get hi_2
        rw [← ea_48] at ra_48
        have hi_3 : vp_in us LS := by exact kt_in (by omega) (by omega)
        refine va_iast hx hb hK hP hD hS 3 0 rfl rfl hi_3 dX2_add_49 (fun H locs hP hD hS => ?_)
        have hne : kt_r (upd ne us.toNatClampNeg a_48) LS (-1) ((LS : Int) - 1) := hne.upd (by omega) (by omega)
        have hP : va_P D vwCl [(lk, .inr (2, [.ref kh, .ref ks, .ref kn, .int us])), (kh, .inl (cI, LH, .inl he)), (ks, .inl (cI, LS, .inl (upd sr us.toNatClampNeg p1))), (kn, .inl (cI, LS, .inl (upd ne us.toNatClampNeg a_48)))] H := hP
        have hD : va_D A [(lk, .inr (2, [.ref kh, .ref ks, .ref kn, .int us])), (kh, .inl (cI, LH, .inl he)), (ks, .inl (cI, LS, .inl (upd sr us.toNatClampNeg p1))), (kn, .inl (cI, LS, .inl (upd ne us.toNatClampNeg a_48)))] := hD
        refine lv_aload_n hx hb dX2_add_50 rfl (lv_at hl 0 rfl) ?_
        refine va_get (D := D) (ci := 2) (C := RX2) (T := TX2) (N := 4) hx hb hts iw_X2_add_X2 hown hK hP 0 rfl rfl 0 (by decide) (hts (.fieldLink RX2 9 "KingTable$Links" "heads" "[I") (List.mem_cons_of_mem _ (List.mem_append_left _ (List.mem_cons_of_mem _ (List.mem_cons_of_mem _ (List.Mem.head _)))))) (fun _ h9 => h9) rfl dX2_add_51 ?_
        refine lv_iload_n hx hb dX2_add_54 rfl (lv_at hl 2 rfl) ?_
        refine lv_aload_n hx hb dX2_add_55 rfl (lv_at hl 0 rfl) ?_
        refine va_get (D := D) (ci := 2) (C := RX2) (T := TX2) (N := 4) hx hb hts iw_X2_add_X2 hown hK hP 0 rfl rfl 3 (by decide) (hts (.fieldLink RX2 32 "KingTable$Links" "used" "I") (List.mem_cons_of_mem _ (List.mem_append_left _ (List.Mem.head _)))) (fun _ h9 => h9) rfl dX2_add_56 ?_
        have hi_4 : vp_in p2 LH := by exact kt_in (by omega) (by omega)
        refine va_iast hx hb hK hP hD hS 1 0 rfl rfl hi_4 dX2_add_59 (fun H locs hP hD hS => ?_)
        have hhe : kt_r (upd he p2.toNatClampNeg us) LH (-1) ((LS : Int) - 1) := hhe.upd (by omega) (by omega)
        have hP : va_P D vwCl [(lk, .inr (2, [.ref kh, .ref ks, .ref kn, .int us])), (kh, .inl (cI, LH, .inl (upd he p2.toNatClampNeg us))), (ks, .inl (cI, LS, .inl (upd sr us.toNatClampNeg p1))), (kn, .inl (cI, LS, .inl (upd ne us.toNatClampNeg a_48)))] H := hP
        have hD : va_D A [(lk, .inr (2, [.ref kh, .ref ks, .ref kn, .int us])), (kh, .inl (cI, LH, .inl (upd he p2.toNatClampNeg us))), (ks, .inl (cI, LS, .inl (upd sr us.toNatClampNeg p1))), (kn, .inl (cI, LS, .inl (upd ne us.toNatClampNeg a_48)))] := hD
        refine lv_aload_n hx hb dX2_add_60 rfl (lv_at hl 0 rfl) ?_
        refine lv_dup hx hb dX2_add_61 rfl ?_
        refine va_get (D := D) (ci := 2) (C := RX2) (T := TX2) (N := 4) hx hb hts iw_X2_add_X2 hown hK hP 0 rfl rfl 3 (by decide) (hts (.fieldLink RX2 32 "KingTable$Links" "used" "I") (List.mem_cons_of_mem _ (List.mem_append_left _ (List.Mem.head _)))) (fun _ h9 => h9) rfl dX2_add_62 ?_
        refine lv_iconst (v := 1) hx hb dX2_add_65 (by decide) ?_
        refine lv_iadd hx hb dX2_add_66 ?_
        refine lv_topi (fun t_66 et_66 => ?_)
        obtain ⟨k_66, hk_66, hm_66, hM_66⟩ := kt_addk et_66
        try simp only [kt_c0, kt_c1, kt_c2, kt_c3, kt_c4, kt_c8, kt_c9, kt_cm1, kt_c81, kt_c40, kt_c7, kt_c5, kt_c6, kt_c512, kt_c10, kt_c10000] at hk_66
        refine va_put (D := D) (ci := 2) (v := .int t_66) (ty := .int) (C := RX2) (T := TX2) (N := 4) hx hb hts iw_X2_add_X2 tyX2 tyX2_ok nmX2 hown hK hP hD hS 0 rfl rfl 3 (by decide) (hts (.fieldLink RX2 32 "KingTable$Links" "used" "I") (List.mem_cons_of_mem _ (List.mem_append_left _ (List.Mem.head _)))) (fun _ h9 => h9) rfl (by decide +kernel) rfl rfl (Nat.le_of_ble_eq_true rfl) dX2_add_67 (fun H locs hP hD hS => ?_)
        have hP : va_P D vwCl [(lk, .inr (2, [.ref kh, .ref ks, .ref kn, .int t_66])), (kh, .inl (cI, LH, .inl (upd he p2.toNatClampNeg us))), (ks, .inl (cI, LS, .inl (upd sr us.toNatClampNeg p1))), (kn, .inl (cI, LS, .inl (upd ne us.toNatClampNeg a_48)))] H := hP
        have hD : va_D A [(lk, .inr (2, [.ref kh, .ref ks, .ref kn, .int t_66])), (kh, .inl (cI, LH, .inl (upd he p2.toNatClampNeg us))), (ks, .inl (cI, LS, .inl (upd sr us.toNatClampNeg p1))), (kn, .inl (cI, LS, .inl (upd ne us.toNatClampNeg a_48)))] := hD
        exact kt_rv (t_66, upd he p2.toNatClampNeg us, upd sr us.toNatClampNeg p1, upd ne us.toNatClampNeg a_48) hx hb hr hlk hS dX2_add_70 hP hD (by show (0 ≤ t_66.toInt ∧ t_66.toInt ≤ (LS : Int)) ∧ kt_r (upd he p2.toNatClampNeg us) LH (-1) ((LS : Int) - 1) ∧ kt_r (upd sr us.toNatClampNeg p1) LS 0 ((LQ : Int) - 1) ∧ kt_r (upd ne us.toNatClampNeg a_48) LS (-1) ((LS : Int) - 1); exact ⟨by omega, hhe, hsr, hne⟩)

theorem iw_X7_forget_X7 : ∀ w ∈ wsX70, w ∈ wsX7_forget := fun _ h => kt_wp_X7_forget__X70 h
set_option maxHeartbeats 4000000 in
set_option maxRecDepth 100000 in
theorem c_X7_forget (l : Launch) (D : va_G) (cI cZ cB : ClassId) (sz : Nat) (so : Nat) (ru : Nat) (tr : Nat) (lk : Nat) (vp : Nat) (vd : Nat) (vt : Nat) (vg : Nat) (vw : Nat) (ve : Nat) (vo : Nat) (vq : Nat) (qd : Int32) (pp : Int32) (ct : Int32) (sv : Int32) : kt_Mv l yX7_forget wsX7_forget { frames := 0, cells := 0, slots := 0, locals := 0 } D (kt_ty cI cZ cB) [.ref so] sz [(so, .inr (7, [.ref ru, .ref tr, .ref lk, .ref vp, .ref vd, .ref vt, .ref vg, .ref vw, .ref ve, .ref vo, .ref vq, .int qd, .int pp, .int ct, .int sv]))] (fun (u : Unit) => True) (fun (u : Unit) => [(so, .inr (7, [.ref ru, .ref tr, .ref lk, .ref vp, .ref vd, .ref vt, .ref vg, .ref vw, .ref ve, .ref vo, .ref vq, .int qd, .int pp, .int ct, .int 0]))]) 0 0 := by
  refine kt_Mv.of (cc := cX7_forget) (maxL := 1) (ret := none) (by decide) rfl (Nat.le_of_ble_eq_true rfl) ?_
  intro p e s m below meth c A ls H hAt hP hD hS hl
  obtain ⟨hx, hb, hr, hml, hown, hts, hN, hK, hlk, hnm, hA⟩ := hAt
  have hl : lv_has ls 1 [(0, .ref so)] := hl
  have hown : s.vm.findClass RX7 = some m.cls := hown
  refine lv_aload_n hx hb dX7_forget_0 rfl (lv_at hl 0 rfl) ?_
  refine lv_iconst (v := 0) hx hb dX7_forget_1 (by decide) ?_
  refine va_put (D := D) (ci := 7) (v := .int 0) (ty := .boolean) (C := RX7) (T := TX7) (N := 15) hx hb hts iw_X7_forget_X7 tyX7 tyX7_ok nmX7 hown hK hP hD hS 0 rfl rfl 14 (by decide) (hts (.fieldLink RX7 54 "KingTable$Solver" "solved" "Z") (List.mem_cons_of_mem _ (List.mem_append_left _ (List.Mem.head _)))) (fun _ h9 => h9) rfl (by decide +kernel) rfl rfl (Nat.le_of_ble_eq_true rfl) dX7_forget_2 (fun H locs hP hD hS => ?_)
  have hP : va_P D vwCl [(so, .inr (7, [.ref ru, .ref tr, .ref lk, .ref vp, .ref vd, .ref vt, .ref vg, .ref vw, .ref ve, .ref vo, .ref vq, .int qd, .int pp, .int ct, .int 0]))] H := hP
  have hD : va_D A [(so, .inr (7, [.ref ru, .ref tr, .ref lk, .ref vp, .ref vd, .ref vt, .ref vg, .ref vw, .ref ve, .ref vo, .ref vq, .int qd, .int pp, .int ct, .int 0]))] := hD
  exact kt_rv () hx hb hr hlk hS dX7_forget_5 hP hD (by show True; trivial)

/-- the number of places: base B, k pieces more; none where the stands are too many -/
def kt_me (B : Int) : Nat → Int → Option Int
  | 0, n => some n
  | k + 1, n => if 10000 < 2 * (n * B) then none else kt_me B k (n * B)
theorem kt_me_s {B v : Int} {m : Nat} (h : ¬ 10000 < 2 * (v * B)) : kt_me B (m + 1) v = kt_me B m (v * B) := if_neg h
theorem kt_me_n {B v : Int} {m : Nat} (h : 10000 < 2 * (v * B)) : kt_me B (m + 1) v = none := if_pos h

theorem iw_X7_measure_X7 : ∀ w ∈ wsX70, w ∈ wsX7_measure := fun _ h => kt_wp_X7_measure__X70 h
theorem iw_X7_measure_X6 : ∀ w ∈ wsX60, w ∈ wsX7_measure := fun _ h => kt_wp_X7_measure__X60 h
theorem iw_X7_measure_X0 : ∀ w ∈ wsX00, w ∈ wsX7_measure := fun _ h => kt_wp_X7_measure__X00 h
set_option maxHeartbeats 4000000 in
set_option maxRecDepth 100000 in
theorem c_X7_measure (l : Launch) (D : va_G) (cI cZ cB : ClassId) (sz : Nat) (so : Nat) (ru : Nat) (tr : Nat) (lk : Nat) (vp : Nat) (vd : Nat) (vt : Nat) (vg : Nat) (vw : Nat) (ve : Nat) (vo : Nat) (vq : Nat) (qd : Int32) (pp : Int32) (ct : Int32) (sv : Int32) (ru : Nat) (la : Nat) (gr : Nat) (rk : Nat) (rs : Nat) (rt : Nat) (rv : Nat) (tt : Int32) (kg : Int32) (vc : Int32) (gt : Nat) (gg : Nat) (gn : Nat) (gs : Int32) (gm : Int32) (fp : Nat → Int32) (htt : 0 ≤ tt.toInt ∧ tt.toInt ≤ 40) (hgs : 0 ≤ gs.toInt ∧ gs.toInt ≤ 81) : kt_Mi l yX7_measure wsX7_measure { frames := 0, cells := 0, slots := 0, locals := 0 } D (kt_ty cI cZ cB) [.ref so] sz [(so, .inr (7, [.ref ru, .ref tr, .ref lk, .ref vp, .ref vd, .ref vt, .ref vg, .ref vw, .ref ve, .ref vo, .ref vq, .int qd, .int pp, .int ct, .int sv])), (ru, .inr (6, [.ref la, .ref gr, .ref rk, .ref rs, .ref rt, .int tt, .int kg, .ref rv, .int vc])), (gr, .inr (0, [.ref gt, .ref gg, .ref gn, .int gs, .int gm])), (vp, .inl (cI, 40, .inl fp))] (fun (r : Int32) (u : Int32 × (Nat → Int32)) => (r = 1 ∧ kt_me (gs.toInt + 1) tt.toInt.toNat 1 = some u.1.toInt ∧ 1 ≤ u.1.toInt ∧ 2 * u.1.toInt ≤ 10000) ∨ (r = 0 ∧ kt_me (gs.toInt + 1) tt.toInt.toNat 1 = none ∧ u.1 = pp)) (fun (u : Int32 × (Nat → Int32)) => [(so, .inr (7, [.ref ru, .ref tr, .ref lk, .ref vp, .ref vd, .ref vt, .ref vg, .ref vw, .ref ve, .ref vo, .ref vq, .int qd, .int u.1, .int ct, .int sv])), (ru, .inr (6, [.ref la, .ref gr, .ref rk, .ref rs, .ref rt, .int tt, .int kg, .ref rv, .int vc])), (gr, .inr (0, [.ref gt, .ref gg, .ref gn, .int gs, .int gm])), (vp, .inl (cI, 40, .inl u.2))]) 0 0 := by
  refine kt_Mi.of (cc := cX7_measure) (maxL := 3) (ret := some .boolean) (by decide) rfl (Nat.le_of_ble_eq_true rfl) ?_
  intro p e s m below meth c A ls H hAt hP hD hS hl
  obtain ⟨hx, hb, hr, hml, hown, hts, hN, hK, hlk, hnm, hA⟩ := hAt
  have hl : lv_has ls 3 [(0, .ref so)] := hl
  have hown : s.vm.findClass RX7 = some m.cls := hown
  refine lv_iconst (v := 1) hx hb dX7_measure_0 (by decide) ?_
  refine lv_istore_n (lv' := [(1, .int 1), (0, .ref so)]) hx hb dX7_measure_1 rfl hl (by decide) rfl (fun ls hl => ?_)
  refine lv_iconst (v := 0) hx hb dX7_measure_2 (by decide) ?_
  refine lv_istore_n (lv' := [(2, .int 0), (1, .int 1), (0, .ref so)]) hx hb dX7_measure_3 rfl hl (by decide) rfl (fun ls hl => ?_)
  refine kt_loop (σ := Nat × Int32 × (Nat → Int32)) 4 3 (fun u => [(so, .inr (7, [.ref ru, .ref tr, .ref lk, .ref vp, .ref vd, .ref vt, .ref vg, .ref vw, .ref ve, .ref vo, .ref vq, .int qd, .int pp, .int ct, .int sv])), (ru, .inr (6, [.ref la, .ref gr, .ref rk, .ref rs, .ref rt, .int tt, .int kg, .ref rv, .int vc])), (gr, .inr (0, [.ref gt, .ref gg, .ref gn, .int gs, .int gm])), (vp, .inl (cI, 40, .inl u.2.2))]) (fun u => [(2, .int (nI u.1)), (1, .int u.2.1), (0, .ref so)]) (fun n u => (u.1 ≤ 40 ∧ 40 < u.1 + n ∧ (u.1 : Int) ≤ tt.toInt) ∧ (kt_me (gs.toInt + 1) tt.toInt.toNat 1 = kt_me (gs.toInt + 1) (tt.toInt.toNat - u.1) u.2.1.toInt) ∧ 1 ≤ u.2.1.toInt ∧ 2 * u.2.1.toInt ≤ 10000) (fun u h => by omega) (fun n_4 ih_4 u hI H locs hP hD hS ls hl => ?_) (41) (0, (1 : Int32), fp) (by show (0 ≤ 40 ∧ 40 < 0 + 41 ∧ (0 : Int) ≤ tt.toInt) ∧ (kt_me (gs.toInt + 1) tt.toInt.toNat 1 = kt_me (gs.toInt + 1) (tt.toInt.toNat - 0) (1 : Int32).toInt) ∧ 1 ≤ (1 : Int32).toInt ∧ 2 * (1 : Int32).toInt ≤ 10000; exact ⟨⟨by decide, by decide, by omega⟩, rfl, by decide, by decide⟩) hP hD hS (lv_sub hl [0, 1, 2] rfl)
  obtain ⟨k, v, g⟩ := u
  have hP : va_P D vwCl [(so, .inr (7, [.ref ru, .ref tr, .ref lk, .ref vp, .ref vd, .ref vt, .ref vg, .ref vw, .ref ve, .ref vo, .ref vq, .int qd, .int pp, .int ct, .int sv])), (ru, .inr (6, [.ref la, .ref gr, .ref rk, .ref rs, .ref rt, .int tt, .int kg, .ref rv, .int vc])), (gr, .inr (0, [.ref gt, .ref gg, .ref gn, .int gs, .int gm])), (vp, .inl (cI, 40, .inl g))] H := hP
  have hD : va_D A [(so, .inr (7, [.ref ru, .ref tr, .ref lk, .ref vp, .ref vd, .ref vt, .ref vg, .ref vw, .ref ve, .ref vo, .ref vq, .int qd, .int pp, .int ct, .int sv])), (ru, .inr (6, [.ref la, .ref gr, .ref rk, .ref rs, .ref rt, .int tt, .int kg, .ref rv, .int vc])), (gr, .inr (0, [.ref gt, .ref gg, .ref gn, .int gs, .int gm])), (vp, .inl (cI, 40, .inl g))] := hD
  have hl : lv_has ls 3 [(2, .int (nI k)), (1, .int v), (0, .ref so)] := hl
  have hI : (k ≤ 40 ∧ 40 < k + (n_4 + 1) ∧ (k : Int) ≤ tt.toInt) ∧ (kt_me (gs.toInt + 1) tt.toInt.toNat 1 = kt_me (gs.toInt + 1) (tt.toInt.toNat - k) v.toInt) ∧ 1 ≤ v.toInt ∧ 2 * v.toInt ≤ 10000 := hI
  obtain ⟨hkb, hme, hv1, hv2⟩ := hI
  have hk0 := kt_nI (n := k) (by omega)
  refine lv_iload_n hx hb dX7_measure_4 rfl (lv_at hl 0 rfl) ?_
  refine lv_aload_n hx hb dX7_measure_5 rfl (lv_at hl 2 rfl) ?_
  refine va_get (D := D) (ci := 7) (C := RX7) (T := TX7) (N := 15) hx hb hts iw_X7_measure_X7 hown hK hP 0 rfl rfl 0 (by decide) (hts (.fieldLink RX7 50 "KingTable$Solver" "rules" "LKingTable$Rules;") (List.mem_cons_of_mem _ (List.mem_append_left _ (List.mem_append_left _ (List.mem_append_left _ (List.Mem.head _)))))) (fun _ h9 => h9) rfl dX7_measure_6 ?_
  refine va_getN (D := D) (ci := 6) (C := RX6) (T := TX6) (N := 9) hx hb hts iw_X7_measure_X6 hown hK hP 1 rfl rfl 5 (by decide) (va_Nw.use (w := .fieldLinkNest RX7 73 "KingTable$Rules" "total" "I" "KingTable") rfl (hN _ (by decide +kernel))) (fun _ h9 => h9) rfl dX7_measure_9 ?_
  refine lv_icmp_ge (tgt := 54) hx hb dX7_measure_12 (by decide) (fun c_12 => ?_) (fun c_12 => ?_)
  · have d_12 := c_12
    simp only [kt_lt, kt_le, kt_eq, kt_c0, kt_c1, kt_c2, kt_c3, kt_c4, kt_c8, kt_c9, kt_cm1, kt_c81, kt_c40, kt_c7, kt_c5, kt_c6, kt_c512, kt_c10, kt_c10000] at d_12
    refine lv_aload_n hx hb dX7_measure_54 rfl (lv_at hl 2 rfl) ?_
    refine lv_iload_n hx hb dX7_measure_55 rfl (lv_at hl 1 rfl) ?_
    refine va_put (D := D) (ci := 7) (v := .int v) (ty := .int) (C := RX7) (T := TX7) (N := 15) hx hb hts iw_X7_measure_X7 tyX7 tyX7_ok nmX7 hown hK hP hD hS 0 rfl rfl 12 (by decide) (hts (.fieldLink RX7 66 "KingTable$Solver" "places" "I") (List.mem_cons_of_mem _ (List.mem_append_left _ (List.mem_append_left _ (List.mem_append_left _ (List.mem_cons_of_mem _ (List.mem_cons_of_mem _ (List.Mem.head _)))))))) (fun _ h9 => h9) rfl (by decide +kernel) rfl rfl (Nat.le_of_ble_eq_true rfl) dX7_measure_56 (fun H locs hP hD hS => ?_)
    have hP : va_P D vwCl [(so, .inr (7, [.ref ru, .ref tr, .ref lk, .ref vp, .ref vd, .ref vt, .ref vg, .ref vw, .ref ve, .ref vo, .ref vq, .int qd, .int v, .int ct, .int sv])), (ru, .inr (6, [.ref la, .ref gr, .ref rk, .ref rs, .ref rt, .int tt, .int kg, .ref rv, .int vc])), (gr, .inr (0, [.ref gt, .ref gg, .ref gn, .int gs, .int gm])), (vp, .inl (cI, 40, .inl g))] H := hP
    have hD : va_D A [(so, .inr (7, [.ref ru, .ref tr, .ref lk, .ref vp, .ref vd, .ref vt, .ref vg, .ref vw, .ref ve, .ref vo, .ref vq, .int qd, .int v, .int ct, .int sv])), (ru, .inr (6, [.ref la, .ref gr, .ref rk, .ref rs, .ref rt, .int tt, .int kg, .ref rv, .int vc])), (gr, .inr (0, [.ref gt, .ref gg, .ref gn, .int gs, .int gm])), (vp, .inl (cI, 40, .inl g))] := hD
    refine lv_iconst (v := 1) hx hb dX7_measure_59 (by decide) ?_
    exact kt_rz (v, g) hx hb hr hlk hS dX7_measure_60 hP hD (by show ((1 : Int32) = 1 ∧ kt_me (gs.toInt + 1) tt.toInt.toNat 1 = some v.toInt ∧ 1 ≤ v.toInt ∧ 2 * v.toInt ≤ 10000) ∨ ((1 : Int32) = 0 ∧ kt_me (gs.toInt + 1) tt.toInt.toNat 1 = none ∧ v = pp); first | exact Or.inr ⟨rfl, by rw [hme, show tt.toInt.toNat - k = (tt.toInt.toNat - (k + 1)) + 1 by omega, kt_me_n (by omega)], rfl⟩ | exact Or.inl ⟨rfl, by rw [hme, show tt.toInt.toNat - k = 0 by omega]; rfl, by omega, by omega⟩) rfl
  · have d_12 := c_12
    simp only [kt_lt, kt_le, kt_eq, kt_c0, kt_c1, kt_c2, kt_c3, kt_c4, kt_c8, kt_c9, kt_cm1, kt_c81, kt_c40, kt_c7, kt_c5, kt_c6, kt_c512, kt_c10, kt_c10000] at d_12
    refine lv_aload_n hx hb dX7_measure_15 rfl (lv_at hl 2 rfl) ?_
    refine va_get (D := D) (ci := 7) (C := RX7) (T := TX7) (N := 15) hx hb hts iw_X7_measure_X7 hown hK hP 0 rfl rfl 3 (by decide) (hts (.fieldLink RX7 25 "KingTable$Solver" "powers" "[I") (List.mem_cons_of_mem _ (List.mem_append_left _ (List.mem_append_left _ (List.mem_append_left _ (List.mem_cons_of_mem _ (List.Mem.head _))))))) (fun _ h9 => h9) rfl dX7_measure_16 ?_
    refine lv_iload_n hx hb dX7_measure_19 rfl (lv_at hl 0 rfl) ?_
    refine lv_iload_n hx hb dX7_measure_20 rfl (lv_at hl 1 rfl) ?_
    have hi_1 : vp_in (nI k) 40 := by exact kt_in (by omega) (by omega)
    refine va_iast hx hb hK hP hD hS 3 0 rfl rfl hi_1 dX7_measure_21 (fun H locs hP hD hS => ?_)
    have hP : va_P D vwCl [(so, .inr (7, [.ref ru, .ref tr, .ref lk, .ref vp, .ref vd, .ref vt, .ref vg, .ref vw, .ref ve, .ref vo, .ref vq, .int qd, .int pp, .int ct, .int sv])), (ru, .inr (6, [.ref la, .ref gr, .ref rk, .ref rs, .ref rt, .int tt, .int kg, .ref rv, .int vc])), (gr, .inr (0, [.ref gt, .ref gg, .ref gn, .int gs, .int gm])), (vp, .inl (cI, 40, .inl (upd g (nI k).toNatClampNeg v)))] H := hP
    have hD : va_D A [(so, .inr (7, [.ref ru, .ref tr, .ref lk, .ref vp, .ref vd, .ref vt, .ref vg, .ref vw, .ref ve, .ref vo, .ref vq, .int qd, .int pp, .int ct, .int sv])), (ru, .inr (6, [.ref la, .ref gr, .ref rk, .ref rs, .ref rt, .int tt, .int kg, .ref rv, .int vc])), (gr, .inr (0, [.ref gt, .ref gg, .ref gn, .int gs, .int gm])), (vp, .inl (cI, 40, .inl (upd g (nI k).toNatClampNeg v)))] := hD
    refine lv_iload_n hx hb dX7_measure_22 rfl (lv_at hl 1 rfl) ?_
    refine lv_aload_n hx hb dX7_measure_23 rfl (lv_at hl 2 rfl) ?_
    refine va_get (D := D) (ci := 7) (C := RX7) (T := TX7) (N := 15) hx hb hts iw_X7_measure_X7 hown hK hP 0 rfl rfl 0 (by decide) (hts (.fieldLink RX7 50 "KingTable$Solver" "rules" "LKingTable$Rules;") (List.mem_cons_of_mem _ (List.mem_append_left _ (List.mem_append_left _ (List.mem_append_left _ (List.Mem.head _)))))) (fun _ h9 => h9) rfl dX7_measure_24 ?_
    refine va_getN (D := D) (ci := 6) (C := RX6) (T := TX6) (N := 9) hx hb hts iw_X7_measure_X6 hown hK hP 1 rfl rfl 1 (by decide) (va_Nw.use (w := .fieldLinkNest RX7 78 "KingTable$Rules" "ground" "LKingTable$Ground;" "KingTable") rfl (hN _ (by decide +kernel))) (fun _ h9 => h9) rfl dX7_measure_27 ?_
    refine va_getN (D := D) (ci := 0) (C := RX0) (T := TX0) (N := 5) hx hb hts iw_X7_measure_X0 hown hK hP 2 rfl rfl 3 (by decide) (va_Nw.use (w := .fieldLinkNest RX7 115 "KingTable$Ground" "size" "I" "KingTable") rfl (hN _ (by decide +kernel))) (fun _ h9 => h9) rfl dX7_measure_30 ?_
    refine lv_iconst (v := 1) hx hb dX7_measure_33 (by decide) ?_
    refine lv_iadd hx hb dX7_measure_34 ?_
    refine lv_topi (fun t_34 et_34 => ?_)
    obtain ⟨k_34, hk_34, hm_34, hM_34⟩ := kt_addk et_34
    try simp only [kt_c0, kt_c1, kt_c2, kt_c3, kt_c4, kt_c8, kt_c9, kt_cm1, kt_c81, kt_c40, kt_c7, kt_c5, kt_c6, kt_c512, kt_c10, kt_c10000] at hk_34
    refine lv_imul hx hb dX7_measure_35 ?_
    refine lv_topi (fun t_35 et_35 => ?_)
    obtain ⟨k_35, hk_35, hm_35, hM_35⟩ := kt_mulxk et_35
    have hmb := kt_mulr (a := v.toInt) (b := t_34.toInt) (A := 5000) (B := 82) (by omega) (by omega)
    have hmp := kt_mulp (a := v.toInt) (b := t_34.toInt) (by omega) (by omega)
    have e34 : t_34.toInt = gs.toInt + 1 := by omega
    have e35 : t_35.toInt = v.toInt * (gs.toInt + 1) := by rw [← e34]; omega
    refine lv_istore_n (lv' := [(1, .int t_35), (2, .int (nI k)), (0, .ref so)]) hx hb dX7_measure_36 rfl hl (by decide) rfl (fun ls hl => ?_)
    refine lv_iconst (v := 2) hx hb dX7_measure_37 (by decide) ?_
    refine lv_iload_n hx hb dX7_measure_38 rfl (lv_at hl 0 rfl) ?_
    refine lv_imul hx hb dX7_measure_39 ?_
    refine lv_topi (fun t_39 et_39 => ?_)
    obtain ⟨k_39, hk_39, hm_39, hM_39⟩ := kt_mulk (C := 2) (et_39.trans (Int32.mul_comm _ _)) (by decide)
    try simp only [kt_c0, kt_c1, kt_c2, kt_c3, kt_c4, kt_c8, kt_c9, kt_cm1, kt_c81, kt_c40, kt_c7, kt_c5, kt_c6, kt_c512, kt_c10, kt_c10000] at hk_39
    refine lv_sipush (v := 10000) hx hb dX7_measure_40 (by decide) ?_
    refine lv_icmp_le (tgt := 48) hx hb dX7_measure_43 (by decide) (fun c_43 => ?_) (fun c_43 => ?_)
    · have d_43 := c_43
      simp only [kt_lt, kt_le, kt_eq, kt_c0, kt_c1, kt_c2, kt_c3, kt_c4, kt_c8, kt_c9, kt_cm1, kt_c81, kt_c40, kt_c7, kt_c5, kt_c6, kt_c512, kt_c10, kt_c10000] at d_43
      refine lv_iinc (v := nI (k + 1)) (lv' := [(2, .int (nI (k + 1))), (1, .int t_35), (0, .ref so)]) hx hb dX7_measure_48 hl (k := 1) rfl (nI_1 _) (by decide) rfl (fun ls hl => ?_)
      refine lv_goto (tgt := 4) hx hb dX7_measure_51 (by decide) ?_
      exact ih_4 ((k + 1), t_35, (upd g (nI k).toNatClampNeg v)) (by show ((k + 1) ≤ 40 ∧ 40 < (k + 1) + n_4 ∧ ((k + 1) : Int) ≤ tt.toInt) ∧ (kt_me (gs.toInt + 1) tt.toInt.toNat 1 = kt_me (gs.toInt + 1) (tt.toInt.toNat - (k + 1)) t_35.toInt) ∧ 1 ≤ t_35.toInt ∧ 2 * t_35.toInt ≤ 10000; exact ⟨by omega, by rw [hme, show tt.toInt.toNat - k = (tt.toInt.toNat - (k + 1)) + 1 by omega, kt_me_s (by omega), e35], by omega, by omega⟩) H _ hP hD hS ls (lv_sub hl [0, 1, 2] rfl)
    · have d_43 := c_43
      simp only [kt_lt, kt_le, kt_eq, kt_c0, kt_c1, kt_c2, kt_c3, kt_c4, kt_c8, kt_c9, kt_cm1, kt_c81, kt_c40, kt_c7, kt_c5, kt_c6, kt_c512, kt_c10, kt_c10000] at d_43
      refine lv_iconst (v := 0) hx hb dX7_measure_46 (by decide) ?_
      exact kt_rz (pp, upd g (nI k).toNatClampNeg v) hx hb hr hlk hS dX7_measure_47 hP hD (by show ((0 : Int32) = 1 ∧ kt_me (gs.toInt + 1) tt.toInt.toNat 1 = some pp.toInt ∧ 1 ≤ pp.toInt ∧ 2 * pp.toInt ≤ 10000) ∨ ((0 : Int32) = 0 ∧ kt_me (gs.toInt + 1) tt.toInt.toNat 1 = none ∧ pp = pp); first | exact Or.inr ⟨rfl, by rw [hme, show tt.toInt.toNat - k = (tt.toInt.toNat - (k + 1)) + 1 by omega, kt_me_n (by omega)], rfl⟩ | exact Or.inl ⟨rfl, by rw [hme, show tt.toInt.toNat - k = 0 by omega]; rfl, by omega, by omega⟩) rfl

theorem iw_X7_nextDigits_X7 : ∀ w ∈ wsX70, w ∈ wsX7_nextDigits := fun _ h => kt_wp_X7_nextDigits__X70 h
theorem iw_X7_nextDigits_X6 : ∀ w ∈ wsX60, w ∈ wsX7_nextDigits := fun _ h => kt_wp_X7_nextDigits__X60 h
theorem iw_X7_nextDigits_X0 : ∀ w ∈ wsX00, w ∈ wsX7_nextDigits := fun _ h => kt_wp_X7_nextDigits__X00 h
set_option maxHeartbeats 4000000 in
set_option maxRecDepth 100000 in
theorem c_X7_nextDigits (l : Launch) (D : va_G) (cI cZ cB : ClassId) (sz : Nat) (so : Nat) (ru : Nat) (tr : Nat) (lk : Nat) (vp : Nat) (vd : Nat) (vt : Nat) (vg : Nat) (vw : Nat) (ve : Nat) (vo : Nat) (vq : Nat) (qd : Int32) (pp : Int32) (ct : Int32) (sv : Int32) (ru : Nat) (la : Nat) (gr : Nat) (rk : Nat) (rs : Nat) (rt : Nat) (rv : Nat) (tt : Int32) (kg : Int32) (vc : Int32) (gt : Nat) (gg : Nat) (gn : Nat) (gs : Int32) (gm : Int32) (fd : Nat → Int32) (htt : 0 ≤ tt.toInt ∧ tt.toInt ≤ 40) (hgs : 0 ≤ gs.toInt ∧ gs.toInt ≤ 81) (hfd : kt_r fd 40 0 81) : kt_Mv l yX7_nextDigits wsX7_nextDigits { frames := 0, cells := 0, slots := 0, locals := 0 } D (kt_ty cI cZ cB) [.ref so] sz [(so, .inr (7, [.ref ru, .ref tr, .ref lk, .ref vp, .ref vd, .ref vt, .ref vg, .ref vw, .ref ve, .ref vo, .ref vq, .int qd, .int pp, .int ct, .int sv])), (ru, .inr (6, [.ref la, .ref gr, .ref rk, .ref rs, .ref rt, .int tt, .int kg, .ref rv, .int vc])), (gr, .inr (0, [.ref gt, .ref gg, .ref gn, .int gs, .int gm])), (vd, .inl (cI, 40, .inl fd))] (fun (u : (Nat → Int32)) => kt_r u 40 0 81) (fun (u : (Nat → Int32)) => [(so, .inr (7, [.ref ru, .ref tr, .ref lk, .ref vp, .ref vd, .ref vt, .ref vg, .ref vw, .ref ve, .ref vo, .ref vq, .int qd, .int pp, .int ct, .int sv])), (ru, .inr (6, [.ref la, .ref gr, .ref rk, .ref rs, .ref rt, .int tt, .int kg, .ref rv, .int vc])), (gr, .inr (0, [.ref gt, .ref gg, .ref gn, .int gs, .int gm])), (vd, .inl (cI, 40, .inl u))]) 0 0 := by
  refine kt_Mv.of (cc := cX7_nextDigits) (maxL := 2) (ret := none) (by decide) rfl (Nat.le_of_ble_eq_true rfl) ?_
  intro p e s m below meth c A ls H hAt hP hD hS hl
  obtain ⟨hx, hb, hr, hml, hown, hts, hN, hK, hlk, hnm, hA⟩ := hAt
  have hl : lv_has ls 2 [(0, .ref so)] := hl
  have hown : s.vm.findClass RX7 = some m.cls := hown
  refine lv_iconst (v := 0) hx hb dX7_nextDigits_0 (by decide) ?_
  refine lv_istore_n (lv' := [(1, .int 0), (0, .ref so)]) hx hb dX7_nextDigits_1 rfl hl (by decide) rfl (fun ls hl => ?_)
  refine kt_loop (σ := Nat × (Nat → Int32)) 2 2 (fun u => [(so, .inr (7, [.ref ru, .ref tr, .ref lk, .ref vp, .ref vd, .ref vt, .ref vg, .ref vw, .ref ve, .ref vo, .ref vq, .int qd, .int pp, .int ct, .int sv])), (ru, .inr (6, [.ref la, .ref gr, .ref rk, .ref rs, .ref rt, .int tt, .int kg, .ref rv, .int vc])), (gr, .inr (0, [.ref gt, .ref gg, .ref gn, .int gs, .int gm])), (vd, .inl (cI, 40, .inl u.2))]) (fun u => [(1, .int (nI u.1)), (0, .ref so)]) (fun n u => (u.1 ≤ 40 ∧ 40 < u.1 + n) ∧ kt_r u.2 40 0 81) (fun u h => by omega) (fun n_2 ih_2 u hI H locs hP hD hS ls hl => ?_) (41) (0, fd) (by show (0 ≤ 40 ∧ 40 < 0 + 41) ∧ kt_r fd 40 0 81; exact ⟨by decide, hfd⟩) hP hD hS (lv_sub hl [0, 1] rfl)
  obtain ⟨k, g⟩ := u
  have hP : va_P D vwCl [(so, .inr (7, [.ref ru, .ref tr, .ref lk, .ref vp, .ref vd, .ref vt, .ref vg, .ref vw, .ref ve, .ref vo, .ref vq, .int qd, .int pp, .int ct, .int sv])), (ru, .inr (6, [.ref la, .ref gr, .ref rk, .ref rs, .ref rt, .int tt, .int kg, .ref rv, .int vc])), (gr, .inr (0, [.ref gt, .ref gg, .ref gn, .int gs, .int gm])), (vd, .inl (cI, 40, .inl g))] H := hP
  have hD : va_D A [(so, .inr (7, [.ref ru, .ref tr, .ref lk, .ref vp, .ref vd, .ref vt, .ref vg, .ref vw, .ref ve, .ref vo, .ref vq, .int qd, .int pp, .int ct, .int sv])), (ru, .inr (6, [.ref la, .ref gr, .ref rk, .ref rs, .ref rt, .int tt, .int kg, .ref rv, .int vc])), (gr, .inr (0, [.ref gt, .ref gg, .ref gn, .int gs, .int gm])), (vd, .inl (cI, 40, .inl g))] := hD
  have hl : lv_has ls 2 [(1, .int (nI k)), (0, .ref so)] := hl
  have hI : (k ≤ 40 ∧ 40 < k + (n_2 + 1)) ∧ kt_r g 40 0 81 := hI
  obtain ⟨hkb, hg⟩ := hI
  have hk0 := kt_nI (n := k) (by omega)
  refine lv_iload_n hx hb dX7_nextDigits_2 rfl (lv_at hl 0 rfl) ?_
  refine lv_aload_n hx hb dX7_nextDigits_3 rfl (lv_at hl 1 rfl) ?_
  refine va_get (D := D) (ci := 7) (C := RX7) (T := TX7) (N := 15) hx hb hts iw_X7_nextDigits_X7 hown hK hP 0 rfl rfl 0 (by decide) (hts (.fieldLink RX7 50 "KingTable$Solver" "rules" "LKingTable$Rules;") (List.mem_cons_of_mem _ (List.mem_append_left _ (List.mem_append_left _ (List.mem_append_left _ (List.Mem.head _)))))) (fun _ h9 => h9) rfl dX7_nextDigits_4 ?_
  refine va_getN (D := D) (ci := 6) (C := RX6) (T := TX6) (N := 9) hx hb hts iw_X7_nextDigits_X6 hown hK hP 1 rfl rfl 5 (by decide) (va_Nw.use (w := .fieldLinkNest RX7 73 "KingTable$Rules" "total" "I" "KingTable") rfl (hN _ (by decide +kernel))) (fun _ h9 => h9) rfl dX7_nextDigits_7 ?_
  refine lv_icmp_ge (tgt := 56) hx hb dX7_nextDigits_10 (by decide) (fun c_10 => ?_) (fun c_10 => ?_)
  · have d_10 := c_10
    simp only [kt_lt, kt_le, kt_eq, kt_c0, kt_c1, kt_c2, kt_c3, kt_c4, kt_c8, kt_c9, kt_cm1, kt_c81, kt_c40, kt_c7, kt_c5, kt_c6, kt_c512, kt_c10, kt_c10000] at d_10
    exact kt_rv g hx hb hr hlk hS dX7_nextDigits_56 hP hD (by show kt_r g 40 0 81; first | exact hg | exact hg.upd (by omega) (by omega))
  · have d_10 := c_10
    simp only [kt_lt, kt_le, kt_eq, kt_c0, kt_c1, kt_c2, kt_c3, kt_c4, kt_c8, kt_c9, kt_cm1, kt_c81, kt_c40, kt_c7, kt_c5, kt_c6, kt_c512, kt_c10, kt_c10000] at d_10
    refine lv_aload_n hx hb dX7_nextDigits_13 rfl (lv_at hl 1 rfl) ?_
    refine va_get (D := D) (ci := 7) (C := RX7) (T := TX7) (N := 15) hx hb hts iw_X7_nextDigits_X7 hown hK hP 0 rfl rfl 4 (by decide) (hts (.fieldLink RX7 29 "KingTable$Solver" "digits" "[I") (List.mem_cons_of_mem _ (List.mem_append_left _ (List.mem_append_left _ (List.mem_append_left _ (List.mem_cons_of_mem _ (List.Mem.head _))))))) (fun _ h9 => h9) rfl dX7_nextDigits_14 ?_
    refine lv_iload_n hx hb dX7_nextDigits_17 rfl (lv_at hl 0 rfl) ?_
    refine lv_dup2_11 hx hb dX7_nextDigits_18 rfl rfl ?_
    have hi_1 : vp_in (nI k) 40 := by exact kt_in (by omega) (by omega)
    refine va_iald hx hb hK hP 3 0 rfl rfl hi_1 dX7_nextDigits_19 ?_
    refine lv_topi (fun a_19 ea_19 => ?_)
    have ra := hg.get hi_1
    rw [← ea_19] at ra
    refine lv_iconst (v := 1) hx hb dX7_nextDigits_20 (by decide) ?_
    refine lv_iadd hx hb dX7_nextDigits_21 ?_
    refine lv_topi (fun t_21 et_21 => ?_)
    obtain ⟨k_21, hk_21, hm_21, hM_21⟩ := kt_addk et_21
    try simp only [kt_c0, kt_c1, kt_c2, kt_c3, kt_c4, kt_c8, kt_c9, kt_cm1, kt_c81, kt_c40, kt_c7, kt_c5, kt_c6, kt_c512, kt_c10, kt_c10000] at hk_21
    have hi_2 : vp_in (nI k) 40 := by exact kt_in (by omega) (by omega)
    refine va_iast hx hb hK hP hD hS 3 0 rfl rfl hi_2 dX7_nextDigits_22 (fun H locs hP hD hS => ?_)
    have hP : va_P D vwCl [(so, .inr (7, [.ref ru, .ref tr, .ref lk, .ref vp, .ref vd, .ref vt, .ref vg, .ref vw, .ref ve, .ref vo, .ref vq, .int qd, .int pp, .int ct, .int sv])), (ru, .inr (6, [.ref la, .ref gr, .ref rk, .ref rs, .ref rt, .int tt, .int kg, .ref rv, .int vc])), (gr, .inr (0, [.ref gt, .ref gg, .ref gn, .int gs, .int gm])), (vd, .inl (cI, 40, .inl (upd g (nI k).toNatClampNeg t_21)))] H := hP
    have hD : va_D A [(so, .inr (7, [.ref ru, .ref tr, .ref lk, .ref vp, .ref vd, .ref vt, .ref vg, .ref vw, .ref ve, .ref vo, .ref vq, .int qd, .int pp, .int ct, .int sv])), (ru, .inr (6, [.ref la, .ref gr, .ref rk, .ref rs, .ref rt, .int tt, .int kg, .ref rv, .int vc])), (gr, .inr (0, [.ref gt, .ref gg, .ref gn, .int gs, .int gm])), (vd, .inl (cI, 40, .inl (upd g (nI k).toNatClampNeg t_21)))] := hD
    refine lv_aload_n hx hb dX7_nextDigits_23 rfl (lv_at hl 1 rfl) ?_
    refine va_get (D := D) (ci := 7) (C := RX7) (T := TX7) (N := 15) hx hb hts iw_X7_nextDigits_X7 hown hK hP 0 rfl rfl 4 (by decide) (hts (.fieldLink RX7 29 "KingTable$Solver" "digits" "[I") (List.mem_cons_of_mem _ (List.mem_append_left _ (List.mem_append_left _ (List.mem_append_left _ (List.mem_cons_of_mem _ (List.Mem.head _))))))) (fun _ h9 => h9) rfl dX7_nextDigits_24 ?_
    refine lv_iload_n hx hb dX7_nextDigits_27 rfl (lv_at hl 0 rfl) ?_
    have hi_3 : vp_in (nI k) 40 := by exact kt_in (by omega) (by omega)
    refine va_iald hx hb hK hP 3 0 rfl rfl hi_3 dX7_nextDigits_28 ?_
    refine lv_topi (fun a_28 ea_28 => ?_)
    rw [pk_us] at ea_28
    have ha28 := congrArg Int32.toInt ea_28
    refine lv_aload_n hx hb dX7_nextDigits_29 rfl (lv_at hl 1 rfl) ?_
    refine va_get (D := D) (ci := 7) (C := RX7) (T := TX7) (N := 15) hx hb hts iw_X7_nextDigits_X7 hown hK hP 0 rfl rfl 0 (by decide) (hts (.fieldLink RX7 50 "KingTable$Solver" "rules" "LKingTable$Rules;") (List.mem_cons_of_mem _ (List.mem_append_left _ (List.mem_append_left _ (List.mem_append_left _ (List.Mem.head _)))))) (fun _ h9 => h9) rfl dX7_nextDigits_30 ?_
    refine va_getN (D := D) (ci := 6) (C := RX6) (T := TX6) (N := 9) hx hb hts iw_X7_nextDigits_X6 hown hK hP 1 rfl rfl 1 (by decide) (va_Nw.use (w := .fieldLinkNest RX7 78 "KingTable$Rules" "ground" "LKingTable$Ground;" "KingTable") rfl (hN _ (by decide +kernel))) (fun _ h9 => h9) rfl dX7_nextDigits_33 ?_
    refine va_getN (D := D) (ci := 0) (C := RX0) (T := TX0) (N := 5) hx hb hts iw_X7_nextDigits_X0 hown hK hP 2 rfl rfl 3 (by decide) (va_Nw.use (w := .fieldLinkNest RX7 115 "KingTable$Ground" "size" "I" "KingTable") rfl (hN _ (by decide +kernel))) (fun _ h9 => h9) rfl dX7_nextDigits_36 ?_
    refine lv_icmp_gt (tgt := 43) hx hb dX7_nextDigits_39 (by decide) (fun c_39 => ?_) (fun c_39 => ?_)
    · have d_39 := c_39
      simp only [kt_lt, kt_le, kt_eq, kt_c0, kt_c1, kt_c2, kt_c3, kt_c4, kt_c8, kt_c9, kt_cm1, kt_c81, kt_c40, kt_c7, kt_c5, kt_c6, kt_c512, kt_c10, kt_c10000] at d_39
      refine lv_aload_n hx hb dX7_nextDigits_43 rfl (lv_at hl 1 rfl) ?_
      refine va_get (D := D) (ci := 7) (C := RX7) (T := TX7) (N := 15) hx hb hts iw_X7_nextDigits_X7 hown hK hP 0 rfl rfl 4 (by decide) (hts (.fieldLink RX7 29 "KingTable$Solver" "digits" "[I") (List.mem_cons_of_mem _ (List.mem_append_left _ (List.mem_append_left _ (List.mem_append_left _ (List.mem_cons_of_mem _ (List.Mem.head _))))))) (fun _ h9 => h9) rfl dX7_nextDigits_44 ?_
      refine lv_iload_n hx hb dX7_nextDigits_47 rfl (lv_at hl 0 rfl) ?_
      refine lv_iconst (v := 0) hx hb dX7_nextDigits_48 (by decide) ?_
      have hi_4 : vp_in (nI k) 40 := by exact kt_in (by omega) (by omega)
      refine va_iast hx hb hK hP hD hS 3 0 rfl rfl hi_4 dX7_nextDigits_49 (fun H locs hP hD hS => ?_)
      have hP : va_P D vwCl [(so, .inr (7, [.ref ru, .ref tr, .ref lk, .ref vp, .ref vd, .ref vt, .ref vg, .ref vw, .ref ve, .ref vo, .ref vq, .int qd, .int pp, .int ct, .int sv])), (ru, .inr (6, [.ref la, .ref gr, .ref rk, .ref rs, .ref rt, .int tt, .int kg, .ref rv, .int vc])), (gr, .inr (0, [.ref gt, .ref gg, .ref gn, .int gs, .int gm])), (vd, .inl (cI, 40, .inl (upd (upd g (nI k).toNatClampNeg t_21) (nI k).toNatClampNeg 0)))] H := hP
      have hD : va_D A [(so, .inr (7, [.ref ru, .ref tr, .ref lk, .ref vp, .ref vd, .ref vt, .ref vg, .ref vw, .ref ve, .ref vo, .ref vq, .int qd, .int pp, .int ct, .int sv])), (ru, .inr (6, [.ref la, .ref gr, .ref rk, .ref rs, .ref rt, .int tt, .int kg, .ref rv, .int vc])), (gr, .inr (0, [.ref gt, .ref gg, .ref gn, .int gs, .int gm])), (vd, .inl (cI, 40, .inl (upd (upd g (nI k).toNatClampNeg t_21) (nI k).toNatClampNeg 0)))] := hD
      refine lv_iinc (v := nI (k + 1)) (lv' := [(1, .int (nI (k + 1))), (0, .ref so)]) hx hb dX7_nextDigits_50 hl (k := 0) rfl (nI_1 _) (by decide) rfl (fun ls hl => ?_)
      refine lv_goto (tgt := 2) hx hb dX7_nextDigits_53 (by decide) ?_
      exact ih_2 ((k + 1), (upd (upd g (nI k).toNatClampNeg t_21) (nI k).toNatClampNeg 0)) (by show ((k + 1) ≤ 40 ∧ 40 < (k + 1) + n_2) ∧ kt_r (upd (upd g (nI k).toNatClampNeg t_21) (nI k).toNatClampNeg 0) 40 0 81; exact ⟨by omega, by rw [fa_upd_twice_]; exact hg.upd (by decide) (by decide)⟩) H _ hP hD hS ls (lv_sub hl [0, 1] rfl)
    · have d_39 := c_39
      simp only [kt_lt, kt_le, kt_eq, kt_c0, kt_c1, kt_c2, kt_c3, kt_c4, kt_c8, kt_c9, kt_cm1, kt_c81, kt_c40, kt_c7, kt_c5, kt_c6, kt_c512, kt_c10, kt_c10000] at d_39
      exact kt_rv (upd g (nI k).toNatClampNeg t_21) hx hb hr hlk hS dX7_nextDigits_42 hP hD (by show kt_r (upd g (nI k).toNatClampNeg t_21) 40 0 81; first | exact hg | exact hg.upd (by omega) (by omega))

theorem iw_X7_setUp_X7 : ∀ w ∈ wsX70, w ∈ wsX7_setUp := fun _ h => kt_wp_X7_setUp__X70 h
theorem iw_X7_setUp_X6 : ∀ w ∈ wsX60, w ∈ wsX7_setUp := fun _ h => kt_wp_X7_setUp__X60 h
theorem iw_X7_setUp_X0 : ∀ w ∈ wsX00, w ∈ wsX7_setUp := fun _ h => kt_wp_X7_setUp__X00 h
set_option maxHeartbeats 4000000 in
set_option maxRecDepth 100000 in
theorem c_X7_setUp (l : Launch) (D : va_G) (cI cZ cB : ClassId) (sz : Nat) (so : Nat) (ru : Nat) (tr : Nat) (lk : Nat) (vp : Nat) (vd : Nat) (vt : Nat) (vg : Nat) (vw : Nat) (ve : Nat) (vo : Nat) (vq : Nat) (qd : Int32) (pp : Int32) (ct : Int32) (sv : Int32) (la : Nat) (gr : Nat) (rk : Nat) (rs : Nat) (rt : Nat) (rv : Nat) (tt : Int32) (kg : Int32) (vc : Int32) (gt : Nat) (gg : Nat) (gn : Nat) (gs : Int32) (gm : Int32) (tf : Nat) (th : Nat) (tn : Int32) (tg : Nat → Int32) (xf : Nat → Int32) (xh : Nat → Int32) (fd : Nat → Int32) (htt : 0 ≤ tt.toInt ∧ tt.toInt ≤ 40) (hgs : 0 ≤ gs.toInt ∧ gs.toInt ≤ 81) (hgt : kt_r tg 81 0 2) (hxf : kt_r xf 40 (-1) 80) (hxh : kt_r xh 81 (-1) 39) (hfd : kt_r fd 40 0 81) : kt_Mi l yX7_setUp wsX7_setUp { frames := 1, cells := 0, slots := 0, locals := 23 } D (kt_ty cI cZ cB) [.ref so] sz [(so, .inr (7, [.ref ru, .ref tr, .ref lk, .ref vp, .ref vd, .ref vt, .ref vg, .ref vw, .ref ve, .ref vo, .ref vq, .int qd, .int pp, .int ct, .int sv])), (ru, .inr (6, [.ref la, .ref gr, .ref rk, .ref rs, .ref rt, .int tt, .int kg, .ref rv, .int vc])), (gr, .inr (0, [.ref gt, .ref gg, .ref gn, .int gs, .int gm])), (gt, .inl (cI, 81, .inl tg)), (tr, .inr (8, [.ref tf, .ref th, .int tn])), (tf, .inl (cI, 40, .inl xf)), (th, .inl (cI, 81, .inl xh)), (vd, .inl (cI, 40, .inl fd))] (fun (r : Int32) (u : (Nat → Int32) × (Nat → Int32)) => (0 ≤ r.toInt ∧ r.toInt ≤ 1) ∧ kt_r u.1 40 (-1) 80 ∧ kt_r u.2 81 (-1) 39) (fun (u : (Nat → Int32) × (Nat → Int32)) => [(so, .inr (7, [.ref ru, .ref tr, .ref lk, .ref vp, .ref vd, .ref vt, .ref vg, .ref vw, .ref ve, .ref vo, .ref vq, .int qd, .int pp, .int ct, .int sv])), (ru, .inr (6, [.ref la, .ref gr, .ref rk, .ref rs, .ref rt, .int tt, .int kg, .ref rv, .int vc])), (gr, .inr (0, [.ref gt, .ref gg, .ref gn, .int gs, .int gm])), (gt, .inl (cI, 81, .inl tg)), (tr, .inr (8, [.ref tf, .ref th, .int tn])), (tf, .inl (cI, 40, .inl u.1)), (th, .inl (cI, 81, .inl u.2)), (vd, .inl (cI, 40, .inl fd))]) 0 0 := by
  refine kt_Mi.of (cc := cX7_setUp) (maxL := 3) (ret := some .boolean) (by decide) rfl (Nat.le_of_ble_eq_true rfl) ?_
  intro p e s m below meth c A ls H hAt hP hD hS hl
  obtain ⟨hx, hb, hr, hml, hown, hts, hN, hK, hlk, hnm, hA⟩ := hAt
  have hl : lv_has ls 3 [(0, .ref so)] := hl
  have hown : s.vm.findClass RX7 = some m.cls := hown
  refine lv_iconst (v := 0) hx hb dX7_setUp_0 (by decide) ?_
  refine lv_istore_n (lv' := [(1, .int 0), (0, .ref so)]) hx hb dX7_setUp_1 rfl hl (by decide) rfl (fun ls hl => ?_)
  refine kt_loop (σ := Nat × (Nat → Int32) × (Nat → Int32)) 2 3 (fun u => [(so, .inr (7, [.ref ru, .ref tr, .ref lk, .ref vp, .ref vd, .ref vt, .ref vg, .ref vw, .ref ve, .ref vo, .ref vq, .int qd, .int pp, .int ct, .int sv])), (ru, .inr (6, [.ref la, .ref gr, .ref rk, .ref rs, .ref rt, .int tt, .int kg, .ref rv, .int vc])), (gr, .inr (0, [.ref gt, .ref gg, .ref gn, .int gs, .int gm])), (gt, .inl (cI, 81, .inl tg)), (tr, .inr (8, [.ref tf, .ref th, .int tn])), (tf, .inl (cI, 40, .inl u.2.1)), (th, .inl (cI, 81, .inl u.2.2)), (vd, .inl (cI, 40, .inl fd))]) (fun u => [(1, .int (nI u.1)), (0, .ref so)]) (fun n u => (u.1 ≤ 40 ∧ 40 < u.1 + n) ∧ kt_r u.2.1 40 (-1) 80 ∧ kt_r u.2.2 81 (-1) 39) (fun u h => by omega) (fun n_2 ih_2 u hI H locs hP hD hS ls hl => ?_) (41) (0, xf, xh) (by show (0 ≤ 40 ∧ 40 < 0 + 41) ∧ kt_r xf 40 (-1) 80 ∧ kt_r xh 81 (-1) 39; exact ⟨by decide, hxf, hxh⟩) hP hD hS (lv_sub hl [0, 1] rfl)
  obtain ⟨k, f1, f2⟩ := u
  have hP : va_P D vwCl [(so, .inr (7, [.ref ru, .ref tr, .ref lk, .ref vp, .ref vd, .ref vt, .ref vg, .ref vw, .ref ve, .ref vo, .ref vq, .int qd, .int pp, .int ct, .int sv])), (ru, .inr (6, [.ref la, .ref gr, .ref rk, .ref rs, .ref rt, .int tt, .int kg, .ref rv, .int vc])), (gr, .inr (0, [.ref gt, .ref gg, .ref gn, .int gs, .int gm])), (gt, .inl (cI, 81, .inl tg)), (tr, .inr (8, [.ref tf, .ref th, .int tn])), (tf, .inl (cI, 40, .inl f1)), (th, .inl (cI, 81, .inl f2)), (vd, .inl (cI, 40, .inl fd))] H := hP
  have hD : va_D A [(so, .inr (7, [.ref ru, .ref tr, .ref lk, .ref vp, .ref vd, .ref vt, .ref vg, .ref vw, .ref ve, .ref vo, .ref vq, .int qd, .int pp, .int ct, .int sv])), (ru, .inr (6, [.ref la, .ref gr, .ref rk, .ref rs, .ref rt, .int tt, .int kg, .ref rv, .int vc])), (gr, .inr (0, [.ref gt, .ref gg, .ref gn, .int gs, .int gm])), (gt, .inl (cI, 81, .inl tg)), (tr, .inr (8, [.ref tf, .ref th, .int tn])), (tf, .inl (cI, 40, .inl f1)), (th, .inl (cI, 81, .inl f2)), (vd, .inl (cI, 40, .inl fd))] := hD
  have hl : lv_has ls 3 [(1, .int (nI k)), (0, .ref so)] := hl
  have hI : (k ≤ 40 ∧ 40 < k + (n_2 + 1)) ∧ kt_r f1 40 (-1) 80 ∧ kt_r f2 81 (-1) 39 := hI
  obtain ⟨hkb, hxf, hxh⟩ := hI
  have hk0 := kt_nI (n := k) (by omega)
  refine lv_iload_n hx hb dX7_setUp_2 rfl (lv_at hl 0 rfl) ?_
  refine lv_aload_n hx hb dX7_setUp_3 rfl (lv_at hl 1 rfl) ?_
  refine va_get (D := D) (ci := 7) (C := RX7) (T := TX7) (N := 15) hx hb hts iw_X7_setUp_X7 hown hK hP 0 rfl rfl 0 (by decide) (hts (.fieldLink RX7 50 "KingTable$Solver" "rules" "LKingTable$Rules;") (List.mem_cons_of_mem _ (List.mem_append_left _ (List.mem_append_left _ (List.mem_append_left _ (List.mem_append_left _ (List.Mem.head _))))))) (fun _ h9 => h9) rfl dX7_setUp_4 ?_
  refine va_getN (D := D) (ci := 6) (C := RX6) (T := TX6) (N := 9) hx hb hts iw_X7_setUp_X6 hown hK hP 1 rfl rfl 5 (by decide) (va_Nw.use (w := .fieldLinkNest RX7 73 "KingTable$Rules" "total" "I" "KingTable") rfl (hN _ (by decide +kernel))) (fun _ h9 => h9) rfl dX7_setUp_7 ?_
  refine lv_icmp_ge (tgt := 28) hx hb dX7_setUp_10 (by decide) (fun c_10 => ?_) (fun c_10 => ?_)
  · have d_10 := c_10
    simp only [kt_lt, kt_le, kt_eq, kt_c0, kt_c1, kt_c2, kt_c3, kt_c4, kt_c8, kt_c9, kt_cm1, kt_c81, kt_c40, kt_c7, kt_c5, kt_c6, kt_c512, kt_c10, kt_c10000] at d_10
    refine lv_iconst (v := 0) hx hb dX7_setUp_28 (by decide) ?_
    refine lv_istore_n (lv' := [(1, .int 0), (0, .ref so)]) hx hb dX7_setUp_29 rfl hl (by decide) rfl (fun ls hl => ?_)
    refine kt_loop (σ := Nat × (Nat → Int32) × (Nat → Int32)) 30 3 (fun u => [(so, .inr (7, [.ref ru, .ref tr, .ref lk, .ref vp, .ref vd, .ref vt, .ref vg, .ref vw, .ref ve, .ref vo, .ref vq, .int qd, .int pp, .int ct, .int sv])), (ru, .inr (6, [.ref la, .ref gr, .ref rk, .ref rs, .ref rt, .int tt, .int kg, .ref rv, .int vc])), (gr, .inr (0, [.ref gt, .ref gg, .ref gn, .int gs, .int gm])), (gt, .inl (cI, 81, .inl tg)), (tr, .inr (8, [.ref tf, .ref th, .int tn])), (tf, .inl (cI, 40, .inl u.2.1)), (th, .inl (cI, 81, .inl u.2.2)), (vd, .inl (cI, 40, .inl fd))]) (fun u => [(1, .int (nI u.1)), (0, .ref so)]) (fun n u => (u.1 ≤ 40 ∧ 40 < u.1 + n) ∧ kt_r u.2.1 40 (-1) 80 ∧ kt_r u.2.2 81 (-1) 39) (fun u h => by omega) (fun n_30 ih_30 u hI H locs hP hD hS ls hl => ?_) (41) (0, f1, f2) (by show (0 ≤ 40 ∧ 40 < 0 + 41) ∧ kt_r f1 40 (-1) 80 ∧ kt_r f2 81 (-1) 39; exact ⟨by decide, hxf, hxh⟩) hP hD hS (lv_sub hl [0, 1] rfl)
    obtain ⟨j, h1, h2⟩ := u
    have hP : va_P D vwCl [(so, .inr (7, [.ref ru, .ref tr, .ref lk, .ref vp, .ref vd, .ref vt, .ref vg, .ref vw, .ref ve, .ref vo, .ref vq, .int qd, .int pp, .int ct, .int sv])), (ru, .inr (6, [.ref la, .ref gr, .ref rk, .ref rs, .ref rt, .int tt, .int kg, .ref rv, .int vc])), (gr, .inr (0, [.ref gt, .ref gg, .ref gn, .int gs, .int gm])), (gt, .inl (cI, 81, .inl tg)), (tr, .inr (8, [.ref tf, .ref th, .int tn])), (tf, .inl (cI, 40, .inl h1)), (th, .inl (cI, 81, .inl h2)), (vd, .inl (cI, 40, .inl fd))] H := hP
    have hD : va_D A [(so, .inr (7, [.ref ru, .ref tr, .ref lk, .ref vp, .ref vd, .ref vt, .ref vg, .ref vw, .ref ve, .ref vo, .ref vq, .int qd, .int pp, .int ct, .int sv])), (ru, .inr (6, [.ref la, .ref gr, .ref rk, .ref rs, .ref rt, .int tt, .int kg, .ref rv, .int vc])), (gr, .inr (0, [.ref gt, .ref gg, .ref gn, .int gs, .int gm])), (gt, .inl (cI, 81, .inl tg)), (tr, .inr (8, [.ref tf, .ref th, .int tn])), (tf, .inl (cI, 40, .inl h1)), (th, .inl (cI, 81, .inl h2)), (vd, .inl (cI, 40, .inl fd))] := hD
    have hl : lv_has ls 3 [(1, .int (nI j)), (0, .ref so)] := hl
    have hI : (j ≤ 40 ∧ 40 < j + (n_30 + 1)) ∧ kt_r h1 40 (-1) 80 ∧ kt_r h2 81 (-1) 39 := hI
    obtain ⟨hjb, hxf, hxh⟩ := hI
    have hj0 := kt_nI (n := j) (by omega)
    refine lv_iload_n hx hb dX7_setUp_30 rfl (lv_at hl 0 rfl) ?_
    refine lv_aload_n hx hb dX7_setUp_31 rfl (lv_at hl 1 rfl) ?_
    refine va_get (D := D) (ci := 7) (C := RX7) (T := TX7) (N := 15) hx hb hts iw_X7_setUp_X7 hown hK hP 0 rfl rfl 0 (by decide) (hts (.fieldLink RX7 50 "KingTable$Solver" "rules" "LKingTable$Rules;") (List.mem_cons_of_mem _ (List.mem_append_left _ (List.mem_append_left _ (List.mem_append_left _ (List.mem_append_left _ (List.Mem.head _))))))) (fun _ h9 => h9) rfl dX7_setUp_32 ?_
    refine va_getN (D := D) (ci := 6) (C := RX6) (T := TX6) (N := 9) hx hb hts iw_X7_setUp_X6 hown hK hP 1 rfl rfl 5 (by decide) (va_Nw.use (w := .fieldLinkNest RX7 73 "KingTable$Rules" "total" "I" "KingTable") rfl (hN _ (by decide +kernel))) (fun _ h9 => h9) rfl dX7_setUp_35 ?_
    refine lv_icmp_ge (tgt := 106) hx hb dX7_setUp_38 (by decide) (fun c_38 => ?_) (fun c_38 => ?_)
    · have d_38 := c_38
      simp only [kt_lt, kt_le, kt_eq, kt_c0, kt_c1, kt_c2, kt_c3, kt_c4, kt_c8, kt_c9, kt_cm1, kt_c81, kt_c40, kt_c7, kt_c5, kt_c6, kt_c512, kt_c10, kt_c10000] at d_38
      refine lv_iconst (v := 1) hx hb dX7_setUp_106 (by decide) ?_
      exact kt_rz (h1, h2) hx hb hr hlk hS dX7_setUp_107 hP hD (by show (0 ≤ (1 : Int32).toInt ∧ (1 : Int32).toInt ≤ 1) ∧ kt_r h1 40 (-1) 80 ∧ kt_r h2 81 (-1) 39; exact ⟨by decide, hxf, hxh⟩) rfl
    · have d_38 := c_38
      simp only [kt_lt, kt_le, kt_eq, kt_c0, kt_c1, kt_c2, kt_c3, kt_c4, kt_c8, kt_c9, kt_cm1, kt_c81, kt_c40, kt_c7, kt_c5, kt_c6, kt_c512, kt_c10, kt_c10000] at d_38
      refine lv_aload_n hx hb dX7_setUp_41 rfl (lv_at hl 1 rfl) ?_
      refine va_get (D := D) (ci := 7) (C := RX7) (T := TX7) (N := 15) hx hb hts iw_X7_setUp_X7 hown hK hP 0 rfl rfl 4 (by decide) (hts (.fieldLink RX7 29 "KingTable$Solver" "digits" "[I") (List.mem_cons_of_mem _ (List.mem_append_left _ (List.mem_append_left _ (List.mem_append_left _ (List.mem_append_left _ (List.mem_cons_of_mem _ (List.mem_cons_of_mem _ (List.Mem.head _))))))))) (fun _ h9 => h9) rfl dX7_setUp_42 ?_
      refine lv_iload_n hx hb dX7_setUp_45 rfl (lv_at hl 0 rfl) ?_
      have hi_1 : vp_in (nI j) 40 := by exact kt_in (by omega) (by omega)
      refine va_iald hx hb hK hP 7 0 rfl rfl hi_1 dX7_setUp_46 ?_
      refine lv_topi (fun a_46 ea_46 => ?_)
      have ra_46 := hfd.get hi_1
      rw [← ea_46] at ra_46
      refine lv_istore_n (lv' := [(2, .int a_46), (1, .int (nI j)), (0, .ref so)]) hx hb dX7_setUp_47 rfl hl (by decide) rfl (fun ls hl => ?_)
      refine lv_iload_n hx hb dX7_setUp_48 rfl (lv_at hl 0 rfl) ?_
      refine lv_aload_n hx hb dX7_setUp_49 rfl (lv_at hl 2 rfl) ?_
      refine va_get (D := D) (ci := 7) (C := RX7) (T := TX7) (N := 15) hx hb hts iw_X7_setUp_X7 hown hK hP 0 rfl rfl 0 (by decide) (hts (.fieldLink RX7 50 "KingTable$Solver" "rules" "LKingTable$Rules;") (List.mem_cons_of_mem _ (List.mem_append_left _ (List.mem_append_left _ (List.mem_append_left _ (List.mem_append_left _ (List.Mem.head _))))))) (fun _ h9 => h9) rfl dX7_setUp_50 ?_
      refine va_getN (D := D) (ci := 6) (C := RX6) (T := TX6) (N := 9) hx hb hts iw_X7_setUp_X6 hown hK hP 1 rfl rfl 1 (by decide) (va_Nw.use (w := .fieldLinkNest RX7 78 "KingTable$Rules" "ground" "LKingTable$Ground;" "KingTable") rfl (hN _ (by decide +kernel))) (fun _ h9 => h9) rfl dX7_setUp_53 ?_
      refine va_getN (D := D) (ci := 0) (C := RX0) (T := TX0) (N := 5) hx hb hts iw_X7_setUp_X0 hown hK hP 2 rfl rfl 3 (by decide) (va_Nw.use (w := .fieldLinkNest RX7 115 "KingTable$Ground" "size" "I" "KingTable") rfl (hN _ (by decide +kernel))) (fun _ h9 => h9) rfl dX7_setUp_56 ?_
      refine lv_icmp_lt (tgt := 65) hx hb dX7_setUp_59 (by decide) (fun c_59 => ?_) (fun c_59 => ?_)
      · have d_59 := c_59
        simp only [kt_lt, kt_le, kt_eq, kt_c0, kt_c1, kt_c2, kt_c3, kt_c4, kt_c8, kt_c9, kt_cm1, kt_c81, kt_c40, kt_c7, kt_c5, kt_c6, kt_c512, kt_c10, kt_c10000] at d_59
        refine lv_aload_n hx hb dX7_setUp_65 rfl (lv_at hl 2 rfl) ?_
        refine va_get (D := D) (ci := 7) (C := RX7) (T := TX7) (N := 15) hx hb hts iw_X7_setUp_X7 hown hK hP 0 rfl rfl 1 (by decide) (hts (.fieldLink RX7 12 "KingTable$Solver" "trial" "LKingTable$Stand;") (List.mem_cons_of_mem _ (List.mem_append_left _ (List.mem_append_left _ (List.mem_append_left _ (List.mem_append_left _ (List.mem_cons_of_mem _ (List.Mem.head _)))))))) (fun _ h9 => h9) rfl dX7_setUp_66 ?_
        refine lv_iload_n hx hb dX7_setUp_69 rfl (lv_at hl 0 rfl) ?_
        refine kt_pi (wc := [(tr, .inr (8, [.ref tf, .ref th, .int tn])), (th, .inl (cI, 81, .inl h2))]) [4, 6] hP hD hS hA rfl (by decide) (fun hPc hDc => va_runV (As := [.int a_46]) (rest := []) ⟨hx, hb, hml, hown, hts⟩ (c_X8_holderOf l D cI cZ cB H.size tr tf th tn h2 a_46 (by first | assumption | omega | rfl | decide)) (cwV 1 hts gX7_setUp_X8_holderOf rfl rfl rfl (by decide +kernel) ⟨Nat.le_of_ble_eq_true rfl, Nat.le_of_ble_eq_true rfl⟩) (kt_preV hN hK hPc hDc 0 (ci := 8) (q := (RX8, TX8, 3)) rfl rfl) rfl rfl hl.1 rfl (lv_room (Nat.le_of_ble_eq_true rfl)) dX7_setUp_70 ⟨Nat.le_of_ble_eq_true rfl, Nat.le_of_ble_eq_true rfl⟩) (fun r_70 _ H locs hw_70 hP hS => ?_)
        refine lv_iconst (v := (-1)) hx hb dX7_setUp_73 (by decide) ?_
        refine lv_icmp_ne (tgt := 89) hx hb dX7_setUp_74 (by decide) (fun c_74 => ?_) (fun c_74 => ?_)
        · have d_74 := c_74
          simp only [kt_lt, kt_le, kt_eq, kt_c0, kt_c1, kt_c2, kt_c3, kt_c4, kt_c8, kt_c9, kt_cm1, kt_c81, kt_c40, kt_c7, kt_c5, kt_c6, kt_c512, kt_c10, kt_c10000] at d_74
          refine lv_iconst (v := 0) hx hb dX7_setUp_89 (by decide) ?_
          exact kt_rz (h1, h2) hx hb hr hlk hS dX7_setUp_90 hP hD (by show (0 ≤ (0 : Int32).toInt ∧ (0 : Int32).toInt ≤ 1) ∧ kt_r h1 40 (-1) 80 ∧ kt_r h2 81 (-1) 39; exact ⟨by decide, hxf, hxh⟩) rfl
        · have d_74 := c_74
          simp only [kt_lt, kt_le, kt_eq, kt_c0, kt_c1, kt_c2, kt_c3, kt_c4, kt_c8, kt_c9, kt_cm1, kt_c81, kt_c40, kt_c7, kt_c5, kt_c6, kt_c512, kt_c10, kt_c10000] at d_74
          refine lv_aload_n hx hb dX7_setUp_77 rfl (lv_at hl 2 rfl) ?_
          refine va_get (D := D) (ci := 7) (C := RX7) (T := TX7) (N := 15) hx hb hts iw_X7_setUp_X7 hown hK hP 0 rfl rfl 0 (by decide) (hts (.fieldLink RX7 50 "KingTable$Solver" "rules" "LKingTable$Rules;") (List.mem_cons_of_mem _ (List.mem_append_left _ (List.mem_append_left _ (List.mem_append_left _ (List.mem_append_left _ (List.Mem.head _))))))) (fun _ h9 => h9) rfl dX7_setUp_78 ?_
          refine lv_iload_n hx hb dX7_setUp_81 rfl (lv_at hl 0 rfl) ?_
          refine lv_iload_n hx hb dX7_setUp_82 rfl (lv_at hl 1 rfl) ?_
          refine kt_pi (wc := [(ru, .inr (6, [.ref la, .ref gr, .ref rk, .ref rs, .ref rt, .int tt, .int kg, .ref rv, .int vc])), (gr, .inr (0, [.ref gt, .ref gg, .ref gn, .int gs, .int gm])), (gt, .inl (cI, 81, .inl tg))]) [1, 2, 3] hP hD hS hA rfl (by decide) (fun hPc hDc => va_runV (As := [.int a_46, .int (nI j)]) (rest := []) ⟨hx, hb, hml, hown, hts⟩ (c_X6_bears l D cI cZ cB H.size ru la gr rk rs rt rv tt kg vc gt gg gn gs gm tg a_46 (nI j) (by first | assumption | omega | rfl | decide) (by first | assumption | omega | rfl | decide)) (cwV 2 hts gX7_setUp_X6_bears rfl rfl rfl (by decide +kernel) ⟨Nat.le_of_ble_eq_true rfl, Nat.le_of_ble_eq_true rfl⟩) (kt_preV hN hK hPc hDc 0 (ci := 6) (q := (RX6, TX6, 9)) rfl rfl) rfl rfl hl.1 rfl (lv_room (Nat.le_of_ble_eq_true rfl)) dX7_setUp_83 ⟨Nat.le_of_ble_eq_true rfl, Nat.le_of_ble_eq_true rfl⟩) (fun r_83 _ H locs hw_83 hP hS => ?_)
          refine lv_if_ne (tgt := 91) hx hb dX7_setUp_86 (by decide) (fun c_86 => ?_) (fun c_86 => ?_)
          · have d_86 := c_86
            simp only [kt_lt, kt_le, kt_eq, kt_c0, kt_c1, kt_c2, kt_c3, kt_c4, kt_c8, kt_c9, kt_cm1, kt_c81, kt_c40, kt_c7, kt_c5, kt_c6, kt_c512, kt_c10, kt_c10000] at d_86
            refine lv_aload_n hx hb dX7_setUp_91 rfl (lv_at hl 2 rfl) ?_
            refine va_get (D := D) (ci := 7) (C := RX7) (T := TX7) (N := 15) hx hb hts iw_X7_setUp_X7 hown hK hP 0 rfl rfl 1 (by decide) (hts (.fieldLink RX7 12 "KingTable$Solver" "trial" "LKingTable$Stand;") (List.mem_cons_of_mem _ (List.mem_append_left _ (List.mem_append_left _ (List.mem_append_left _ (List.mem_append_left _ (List.mem_cons_of_mem _ (List.Mem.head _)))))))) (fun _ h9 => h9) rfl dX7_setUp_92 ?_
            refine lv_iload_n hx hb dX7_setUp_95 rfl (lv_at hl 1 rfl) ?_
            refine lv_iload_n hx hb dX7_setUp_96 rfl (lv_at hl 0 rfl) ?_
            refine kt_bv (wc := [(tr, .inr (8, [.ref tf, .ref th, .int tn])), (tf, .inl (cI, 40, .inl h1)), (th, .inl (cI, 81, .inl h2))]) (wr := [(so, .inr (7, [.ref ru, .ref tr, .ref lk, .ref vp, .ref vd, .ref vt, .ref vg, .ref vw, .ref ve, .ref vo, .ref vq, .int qd, .int pp, .int ct, .int sv])), (ru, .inr (6, [.ref la, .ref gr, .ref rk, .ref rs, .ref rt, .int tt, .int kg, .ref rv, .int vc])), (gr, .inr (0, [.ref gt, .ref gg, .ref gn, .int gs, .int gm])), (gt, .inl (cI, 81, .inl tg)), (vd, .inl (cI, 40, .inl fd))]) [4, 5, 6] [0, 1, 2, 3, 7] hP hD hS hA rfl rfl (by decide) (by decide) (by decide) (fun hPc hDc => va_runV (As := [.int (nI j), .int a_46]) (rest := []) ⟨hx, hb, hml, hown, hts⟩ (c_X8_place l D cI cZ cB H.size tr tf th tn h1 h2 (nI j) a_46 (by first | assumption | omega | rfl | decide) (by first | assumption | omega | rfl | decide) (by first | assumption | omega | rfl | decide)) (cwV 2 hts gX7_setUp_X8_place rfl rfl rfl (by decide +kernel) ⟨Nat.le_of_ble_eq_true rfl, Nat.le_of_ble_eq_true rfl⟩) (kt_preV hN hK hPc hDc 0 (ci := 8) (q := (RX8, TX8, 3)) rfl rfl) rfl rfl hl.1 rfl (lv_room (Nat.le_of_ble_eq_true rfl)) dX7_setUp_97 ⟨Nat.le_of_ble_eq_true rfl, Nat.le_of_ble_eq_true rfl⟩) (fun u_ H locs hw_97 hP hD hS => ?_)
            obtain ⟨ff2_97, fh2_97⟩ := u_
            have hP : va_P D vwCl [(so, .inr (7, [.ref ru, .ref tr, .ref lk, .ref vp, .ref vd, .ref vt, .ref vg, .ref vw, .ref ve, .ref vo, .ref vq, .int qd, .int pp, .int ct, .int sv])), (ru, .inr (6, [.ref la, .ref gr, .ref rk, .ref rs, .ref rt, .int tt, .int kg, .ref rv, .int vc])), (gr, .inr (0, [.ref gt, .ref gg, .ref gn, .int gs, .int gm])), (gt, .inl (cI, 81, .inl tg)), (tr, .inr (8, [.ref tf, .ref th, .int tn])), (tf, .inl (cI, 40, .inl ff2_97)), (th, .inl (cI, 81, .inl fh2_97)), (vd, .inl (cI, 40, .inl fd))] H := hP.sub [0, 1, 2, 3, 5, 6, 7, 4] rfl
            have hD : va_D A [(so, .inr (7, [.ref ru, .ref tr, .ref lk, .ref vp, .ref vd, .ref vt, .ref vg, .ref vw, .ref ve, .ref vo, .ref vq, .int qd, .int pp, .int ct, .int sv])), (ru, .inr (6, [.ref la, .ref gr, .ref rk, .ref rs, .ref rt, .int tt, .int kg, .ref rv, .int vc])), (gr, .inr (0, [.ref gt, .ref gg, .ref gn, .int gs, .int gm])), (gt, .inl (cI, 81, .inl tg)), (tr, .inr (8, [.ref tf, .ref th, .int tn])), (tf, .inl (cI, 40, .inl ff2_97)), (th, .inl (cI, 81, .inl fh2_97)), (vd, .inl (cI, 40, .inl fd))] := hD.sub [0, 1, 2, 3, 5, 6, 7, 4] (by decide) rfl
            try dsimp only at hw_97
            obtain ⟨hxf, hxh⟩ := hw_97
            refine lv_iinc (v := nI (j + 1)) (lv' := [(1, .int (nI (j + 1))), (2, .int a_46), (0, .ref so)]) hx hb dX7_setUp_100 hl (k := 1) rfl (nI_1 _) (by decide) rfl (fun ls hl => ?_)
            refine lv_goto (tgt := 30) hx hb dX7_setUp_103 (by decide) ?_
            exact ih_30 ((j + 1), ff2_97, fh2_97) (by show ((j + 1) ≤ 40 ∧ 40 < (j + 1) + n_30) ∧ kt_r ff2_97 40 (-1) 80 ∧ kt_r fh2_97 81 (-1) 39; exact ⟨by omega, hxf, hxh⟩) H _ hP hD hS ls (lv_sub hl [0, 2] rfl)
          · have d_86 := c_86
            simp only [kt_lt, kt_le, kt_eq, kt_c0, kt_c1, kt_c2, kt_c3, kt_c4, kt_c8, kt_c9, kt_cm1, kt_c81, kt_c40, kt_c7, kt_c5, kt_c6, kt_c512, kt_c10, kt_c10000] at d_86
            refine lv_iconst (v := 0) hx hb dX7_setUp_89 (by decide) ?_
            exact kt_rz (h1, h2) hx hb hr hlk hS dX7_setUp_90 hP hD (by show (0 ≤ (0 : Int32).toInt ∧ (0 : Int32).toInt ≤ 1) ∧ kt_r h1 40 (-1) 80 ∧ kt_r h2 81 (-1) 39; exact ⟨by decide, hxf, hxh⟩) rfl
      · have d_59 := c_59
        simp only [kt_lt, kt_le, kt_eq, kt_c0, kt_c1, kt_c2, kt_c3, kt_c4, kt_c8, kt_c9, kt_cm1, kt_c81, kt_c40, kt_c7, kt_c5, kt_c6, kt_c512, kt_c10, kt_c10000] at d_59
        refine lv_goto (tgt := 100) hx hb dX7_setUp_62 (by decide) ?_
        refine lv_iinc (v := nI (j + 1)) (lv' := [(1, .int (nI (j + 1))), (2, .int a_46), (0, .ref so)]) hx hb dX7_setUp_100 hl (k := 1) rfl (nI_1 _) (by decide) rfl (fun ls hl => ?_)
        refine lv_goto (tgt := 30) hx hb dX7_setUp_103 (by decide) ?_
        exact ih_30 ((j + 1), h1, h2) (by show ((j + 1) ≤ 40 ∧ 40 < (j + 1) + n_30) ∧ kt_r h1 40 (-1) 80 ∧ kt_r h2 81 (-1) 39; exact ⟨by omega, hxf, hxh⟩) H _ hP hD hS ls (lv_sub hl [0, 2] rfl)
  · have d_10 := c_10
    simp only [kt_lt, kt_le, kt_eq, kt_c0, kt_c1, kt_c2, kt_c3, kt_c4, kt_c8, kt_c9, kt_cm1, kt_c81, kt_c40, kt_c7, kt_c5, kt_c6, kt_c512, kt_c10, kt_c10000] at d_10
    refine lv_aload_n hx hb dX7_setUp_13 rfl (lv_at hl 1 rfl) ?_
    refine va_get (D := D) (ci := 7) (C := RX7) (T := TX7) (N := 15) hx hb hts iw_X7_setUp_X7 hown hK hP 0 rfl rfl 1 (by decide) (hts (.fieldLink RX7 12 "KingTable$Solver" "trial" "LKingTable$Stand;") (List.mem_cons_of_mem _ (List.mem_append_left _ (List.mem_append_left _ (List.mem_append_left _ (List.mem_append_left _ (List.mem_cons_of_mem _ (List.Mem.head _)))))))) (fun _ h9 => h9) rfl dX7_setUp_14 ?_
    refine lv_iload_n hx hb dX7_setUp_17 rfl (lv_at hl 0 rfl) ?_
    refine lv_iconst (v := (-1)) hx hb dX7_setUp_18 (by decide) ?_
    refine kt_bv (wc := [(tr, .inr (8, [.ref tf, .ref th, .int tn])), (tf, .inl (cI, 40, .inl f1)), (th, .inl (cI, 81, .inl f2))]) (wr := [(so, .inr (7, [.ref ru, .ref tr, .ref lk, .ref vp, .ref vd, .ref vt, .ref vg, .ref vw, .ref ve, .ref vo, .ref vq, .int qd, .int pp, .int ct, .int sv])), (ru, .inr (6, [.ref la, .ref gr, .ref rk, .ref rs, .ref rt, .int tt, .int kg, .ref rv, .int vc])), (gr, .inr (0, [.ref gt, .ref gg, .ref gn, .int gs, .int gm])), (gt, .inl (cI, 81, .inl tg)), (vd, .inl (cI, 40, .inl fd))]) [4, 5, 6] [0, 1, 2, 3, 7] hP hD hS hA rfl rfl (by decide) (by decide) (by decide) (fun hPc hDc => va_runV (As := [.int (nI k), .int (-1)]) (rest := []) ⟨hx, hb, hml, hown, hts⟩ (c_X8_place l D cI cZ cB H.size tr tf th tn f1 f2 (nI k) (-1) hxf hxh (by decide)) (cwV 2 hts gX7_setUp_X8_place rfl rfl rfl (by decide +kernel) ⟨Nat.le_of_ble_eq_true rfl, Nat.le_of_ble_eq_true rfl⟩) (kt_preV hN hK hPc hDc 0 (ci := 8) (q := (RX8, TX8, 3)) rfl rfl) rfl rfl hl.1 rfl (lv_room (Nat.le_of_ble_eq_true rfl)) dX7_setUp_19 ⟨Nat.le_of_ble_eq_true rfl, Nat.le_of_ble_eq_true rfl⟩) (fun u_ H locs hw_19 hP hD hS => ?_)
    obtain ⟨ff2_19, fh2_19⟩ := u_
    have hP : va_P D vwCl [(so, .inr (7, [.ref ru, .ref tr, .ref lk, .ref vp, .ref vd, .ref vt, .ref vg, .ref vw, .ref ve, .ref vo, .ref vq, .int qd, .int pp, .int ct, .int sv])), (ru, .inr (6, [.ref la, .ref gr, .ref rk, .ref rs, .ref rt, .int tt, .int kg, .ref rv, .int vc])), (gr, .inr (0, [.ref gt, .ref gg, .ref gn, .int gs, .int gm])), (gt, .inl (cI, 81, .inl tg)), (tr, .inr (8, [.ref tf, .ref th, .int tn])), (tf, .inl (cI, 40, .inl ff2_19)), (th, .inl (cI, 81, .inl fh2_19)), (vd, .inl (cI, 40, .inl fd))] H := hP.sub [0, 1, 2, 3, 5, 6, 7, 4] rfl
    have hD : va_D A [(so, .inr (7, [.ref ru, .ref tr, .ref lk, .ref vp, .ref vd, .ref vt, .ref vg, .ref vw, .ref ve, .ref vo, .ref vq, .int qd, .int pp, .int ct, .int sv])), (ru, .inr (6, [.ref la, .ref gr, .ref rk, .ref rs, .ref rt, .int tt, .int kg, .ref rv, .int vc])), (gr, .inr (0, [.ref gt, .ref gg, .ref gn, .int gs, .int gm])), (gt, .inl (cI, 81, .inl tg)), (tr, .inr (8, [.ref tf, .ref th, .int tn])), (tf, .inl (cI, 40, .inl ff2_19)), (th, .inl (cI, 81, .inl fh2_19)), (vd, .inl (cI, 40, .inl fd))] := hD.sub [0, 1, 2, 3, 5, 6, 7, 4] (by decide) rfl
    try dsimp only at hw_19
    obtain ⟨hxf, hxh⟩ := hw_19
    refine lv_iinc (v := nI (k + 1)) (lv' := [(1, .int (nI (k + 1))), (0, .ref so)]) hx hb dX7_setUp_22 hl (k := 0) rfl (nI_1 _) (by decide) rfl (fun ls hl => ?_)
    refine lv_goto (tgt := 2) hx hb dX7_setUp_25 (by decide) ?_
    exact ih_2 ((k + 1), ff2_19, fh2_19) (by show ((k + 1) ≤ 40 ∧ 40 < (k + 1) + n_2) ∧ kt_r ff2_19 40 (-1) 80 ∧ kt_r fh2_19 81 (-1) 39; exact ⟨by omega, hxf, hxh⟩) H _ hP hD hS ls (lv_sub hl [0, 1] rfl)
