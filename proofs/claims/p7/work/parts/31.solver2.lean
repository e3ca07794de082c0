theorem iw_X7_behindMove_X7 : ∀ w ∈ wsX70, w ∈ wsX7_behindMove := fun _ h => kt_wp_X7_behindMove__X70 h
theorem iw_X7_behindMove_X6 : ∀ w ∈ wsX60, w ∈ wsX7_behindMove := fun _ h => kt_wp_X7_behindMove__X60 h
theorem iw_X7_behindMove_X8 : ∀ w ∈ wsX80, w ∈ wsX7_behindMove := fun _ h => kt_wp_X7_behindMove__X80 h
theorem iw_X7_behindMove_X0 : ∀ w ∈ wsX00, w ∈ wsX7_behindMove := fun _ h => kt_wp_X7_behindMove__X00 h
set_option maxHeartbeats 4000000 in
set_option maxRecDepth 100000 in
theorem c_X7_behindMove (l : Launch) (D : va_G) (cI cZ cB : ClassId) (sz : Nat) (so : Nat) (ru : Nat) (tr : Nat) (lk : Nat) (vp : Nat) (vd : Nat) (vt : Nat) (vg : Nat) (vw : Nat) (ve : Nat) (vo : Nat) (vq : Nat) (qd : Int32) (pp : Int32) (ct : Int32) (sv : Int32) (la : Nat) (gr : Nat) (rk : Nat) (rs : Nat) (rt : Nat) (rv : Nat) (tt : Int32) (kg : Int32) (vc : Int32) (gt : Nat) (gg : Nat) (gn : Nat) (gs : Int32) (gm : Int32) (fv : Nat → Int32) (fp : Nat → Int32) (nw : Nat) (sf : Nat) (sh : Nat) (tu : Int32) (ff : Nat → Int32) (p1 : Int32) (p2 : Int32) (p3 : Int32) (hvc : 0 ≤ vc.toInt ∧ vc.toInt ≤ 4) (hrv : kt_r fv 4 0 39) (hff : kt_r ff 40 (-1) 80) (hp2 : 0 ≤ p2.toInt ∧ p2.toInt ≤ 39) : kt_Mi l yX7_behindMove wsX7_behindMove { frames := 1, cells := 0, slots := 0, locals := 21 } D (kt_ty cI cZ cB) [.ref so, .ref nw, .int p1, .int p2, .int p3] sz [(so, .inr (7, [.ref ru, .ref tr, .ref lk, .ref vp, .ref vd, .ref vt, .ref vg, .ref vw, .ref ve, .ref vo, .ref vq, .int qd, .int pp, .int ct, .int sv])), (ru, .inr (6, [.ref la, .ref gr, .ref rk, .ref rs, .ref rt, .int tt, .int kg, .ref rv, .int vc])), (gr, .inr (0, [.ref gt, .ref gg, .ref gn, .int gs, .int gm])), (rv, .inl (cI, 4, .inl fv)), (vp, .inl (cI, 40, .inl fp)), (nw, .inr (8, [.ref sf, .ref sh, .int tu])), (sf, .inl (cI, 40, .inl ff))] (fun (r : Int32) (u : Unit) => True) (fun (u : Unit) => [(so, .inr (7, [.ref ru, .ref tr, .ref lk, .ref vp, .ref vd, .ref vt, .ref vg, .ref vw, .ref ve, .ref vo, .ref vq, .int qd, .int pp, .int ct, .int sv])), (ru, .inr (6, [.ref la, .ref gr, .ref rk, .ref rs, .ref rt, .int tt, .int kg, .ref rv, .int vc])), (gr, .inr (0, [.ref gt, .ref gg, .ref gn, .int gs, .int gm])), (rv, .inl (cI, 4, .inl fv)), (vp, .inl (cI, 40, .inl fp)), (nw, .inr (8, [.ref sf, .ref sh, .int tu])), (sf, .inl (cI, 40, .inl ff))]) 0 0 := by
  refine kt_Mi.of (cc := cX7_behindMove) (maxL := 8) (ret := some .int) (by decide) rfl (Nat.le_of_ble_eq_true rfl) ?_
  intro p e s m below meth c A ls H hAt hP hD hS hl
  obtain ⟨hx, hb, hr, hml, hown, hts, hN, hK, hlk, hnm, hA⟩ := hAt
  have hl : lv_has ls 8 [(0, .ref so), (1, .ref nw), (2, .int p1), (3, .int p2), (4, .int p3)] := hl
  have hown : s.vm.findClass RX7 = some m.cls := hown
  refine lv_iload hx hb dX7_behindMove_0 (lv_at hl 4 rfl) ?_
  refine lv_aload_n hx hb dX7_behindMove_2 rfl (lv_at hl 1 rfl) ?_
  refine lv_iload_n hx hb dX7_behindMove_3 rfl (lv_at hl 3 rfl) ?_
  refine kt_pi (wc := [(nw, .inr (8, [.ref sf, .ref sh, .int tu])), (sf, .inl (cI, 40, .inl ff))]) [5, 6] hP hD hS hA rfl (by decide) (fun hPc hDc => va_runV (As := [.int p2]) (rest := [.int p3]) ⟨hx, hb, hml, hown, hts⟩ (c_X8_fieldOf l D cI cZ cB H.size nw sf sh tu ff p2 (by first | assumption | omega | rfl | decide)) (cwV 1 hts gX7_behindMove_X8_fieldOf rfl rfl rfl (by decide +kernel) ⟨Nat.le_of_ble_eq_true rfl, Nat.le_of_ble_eq_true rfl⟩) (kt_preV hN hK hPc hDc 0 (ci := 8) (q := (RX8, TX8, 3)) rfl rfl) rfl rfl hl.1 rfl (lv_room (Nat.le_of_ble_eq_true rfl)) dX7_behindMove_4 ⟨Nat.le_of_ble_eq_true rfl, Nat.le_of_ble_eq_true rfl⟩) (fun r_4 _ H locs hw_4 hP hS => ?_)
  refine lv_isub hx hb dX7_behindMove_7 ?_
  refine lv_topi (fun t_7 et_7 => ?_)
  obtain ⟨k_7, hk_7, hm_7, hM_7⟩ := kt_subk et_7
  refine lv_aload_n hx hb dX7_behindMove_8 rfl (lv_at hl 0 rfl) ?_
  refine va_get (D := D) (ci := 7) (C := RX7) (T := TX7) (N := 15) hx hb hts iw_X7_behindMove_X7 hown hK hP 0 rfl rfl 3 (by decide) (hts (.fieldLink RX7 25 "KingTable$Solver" "powers" "[I") (List.mem_cons_of_mem _ (List.mem_append_left _ (List.mem_append_left _ (List.mem_append_left _ (List.mem_append_left _ (List.Mem.head _))))))) (fun _ h9 => h9) rfl dX7_behindMove_9 ?_
  refine lv_iload_n hx hb dX7_behindMove_12 rfl (lv_at hl 3 rfl) ?_
  have hi_1 : vp_in p2 40 := by exact kt_in (by omega) (by omega)
  refine va_iald hx hb hK hP 4 0 rfl rfl hi_1 dX7_behindMove_13 ?_
  refine lv_topi (fun a_13 ea_13 => ?_)
  refine lv_imul hx hb dX7_behindMove_14 ?_
  refine lv_topi (fun t_14 et_14 => ?_)
  obtain ⟨k_14, hk_14, hm_14, hM_14⟩ := kt_mulxk et_14
  refine lv_istore (lv' := [(5, .int t_14), (0, .ref so), (1, .ref nw), (2, .int p1), (3, .int p2), (4, .int p3)]) hx hb dX7_behindMove_15 hl (by decide) rfl (fun ls hl => ?_)
  refine lv_iconst (v := 0) hx hb dX7_behindMove_17 (by decide) ?_
  refine lv_istore (lv' := [(6, .int 0), (5, .int t_14), (0, .ref so), (1, .ref nw), (2, .int p1), (3, .int p2), (4, .int p3)]) hx hb dX7_behindMove_18 hl (by decide) rfl (fun ls hl => ?_)
  refine kt_loop (σ := Nat × Int32) 20 8 (fun u => [(so, .inr (7, [.ref ru, .ref tr, .ref lk, .ref vp, .ref vd, .ref vt, .ref vg, .ref vw, .ref ve, .ref vo, .ref vq, .int qd, .int pp, .int ct, .int sv])), (ru, .inr (6, [.ref la, .ref gr, .ref rk, .ref rs, .ref rt, .int tt, .int kg, .ref rv, .int vc])), (gr, .inr (0, [.ref gt, .ref gg, .ref gn, .int gs, .int gm])), (rv, .inl (cI, 4, .inl fv)), (vp, .inl (cI, 40, .inl fp)), (nw, .inr (8, [.ref sf, .ref sh, .int tu])), (sf, .inl (cI, 40, .inl ff))]) (fun u => [(6, .int (nI u.1)), (5, .int u.2), (0, .ref so), (1, .ref nw), (2, .int p1), (3, .int p2), (4, .int p3)]) (fun n u => u.1 ≤ 4 ∧ 4 < u.1 + n) (fun u h => by omega) (fun n_20 ih_20 u hI H locs hP hD hS ls hl => ?_) (5) (0, t_14) (by show 0 ≤ 4 ∧ 4 < 0 + 5; exact ⟨by decide, by decide⟩) hP hD hS (lv_sub hl [0, 1, 2, 3, 4, 5, 6] rfl)
  obtain ⟨k, sh_⟩ := u
  have hP : va_P D vwCl [(so, .inr (7, [.ref ru, .ref tr, .ref lk, .ref vp, .ref vd, .ref vt, .ref vg, .ref vw, .ref ve, .ref vo, .ref vq, .int qd, .int pp, .int ct, .int sv])), (ru, .inr (6, [.ref la, .ref gr, .ref rk, .ref rs, .ref rt, .int tt, .int kg, .ref rv, .int vc])), (gr, .inr (0, [.ref gt, .ref gg, .ref gn, .int gs, .int gm])), (rv, .inl (cI, 4, .inl fv)), (vp, .inl (cI, 40, .inl fp)), (nw, .inr (8, [.ref sf, .ref sh, .int tu])), (sf, .inl (cI, 40, .inl ff))] H := hP
  have hD : va_D A [(so, .inr (7, [.ref ru, .ref tr, .ref lk, .ref vp, .ref vd, .ref vt, .ref vg, .ref vw, .ref ve, .ref vo, .ref vq, .int qd, .int pp, .int ct, .int sv])), (ru, .inr (6, [.ref la, .ref gr, .ref rk, .ref rs, .ref rt, .int tt, .int kg, .ref rv, .int vc])), (gr, .inr (0, [.ref gt, .ref gg, .ref gn, .int gs, .int gm])), (rv, .inl (cI, 4, .inl fv)), (vp, .inl (cI, 40, .inl fp)), (nw, .inr (8, [.ref sf, .ref sh, .int tu])), (sf, .inl (cI, 40, .inl ff))] := hD
  have hl : lv_has ls 8 [(6, .int (nI k)), (5, .int sh_), (0, .ref so), (1, .ref nw), (2, .int p1), (3, .int p2), (4, .int p3)] := hl
  have hI : k ≤ 4 ∧ 4 < k + (n_20 + 1) := hI
  have hk0 := kt_nI (n := k) (by omega)
  refine lv_iload hx hb dX7_behindMove_20 (lv_at hl 0 rfl) ?_
  refine lv_aload_n hx hb dX7_behindMove_22 rfl (lv_at hl 2 rfl) ?_
  refine va_get (D := D) (ci := 7) (C := RX7) (T := TX7) (N := 15) hx hb hts iw_X7_behindMove_X7 hown hK hP 0 rfl rfl 0 (by decide) (hts (.fieldLink RX7 50 "KingTable$Solver" "rules" "LKingTable$Rules;") (List.mem_cons_of_mem _ (List.mem_append_left _ (List.mem_append_left _ (List.mem_append_left _ (List.mem_append_left _ (List.mem_cons_of_mem _ (List.Mem.head _)))))))) (fun _ h9 => h9) rfl dX7_behindMove_23 ?_
  refine va_getN (D := D) (ci := 6) (C := RX6) (T := TX6) (N := 9) hx hb hts iw_X7_behindMove_X6 hown hK hP 1 rfl rfl 8 (by decide) (va_Nw.use (w := .fieldLinkNest RX7 174 "KingTable$Rules" "victimCount" "I" "KingTable") rfl (hN _ (by decide +kernel))) (fun _ h9 => h9) rfl dX7_behindMove_26 ?_
  refine lv_icmp_ge (tgt := 80) hx hb dX7_behindMove_29 (by decide) (fun c_29 => ?_) (fun c_29 => ?_)
  · have d_29 := c_29
    simp only [kt_lt, kt_le, kt_eq, kt_c0, kt_c1, kt_c2, kt_c3, kt_c4, kt_c8, kt_c9, kt_cm1, kt_c81, kt_c40, kt_c7, kt_c5, kt_c6, kt_c512, kt_c10, kt_c10000] at d_29
    refine lv_iload_n hx hb dX7_behindMove_80 rfl (lv_at hl 4 rfl) ?_
    refine lv_iconst (v := 2) hx hb dX7_behindMove_81 (by decide) ?_
    refine lv_iload hx hb dX7_behindMove_82 (lv_at hl 1 rfl) ?_
    refine lv_imul hx hb dX7_behindMove_84 ?_
    refine lv_topi (fun t_84 et_84 => ?_)
    obtain ⟨k_84, hk_84, hm_84, hM_84⟩ := kt_mulk (C := 2) (et_84.trans (Int32.mul_comm _ _)) (by decide)
    try simp only [kt_c0, kt_c1, kt_c2, kt_c3, kt_c4, kt_c8, kt_c9, kt_cm1, kt_c81, kt_c40, kt_c7, kt_c5, kt_c6, kt_c512, kt_c10, kt_c10000] at hk_84
    refine lv_iadd hx hb dX7_behindMove_85 ?_
    refine lv_topi (fun t_85 et_85 => ?_)
    obtain ⟨k_85, hk_85, hm_85, hM_85⟩ := kt_addk et_85
    refine lv_iconst (v := 1) hx hb dX7_behindMove_86 (by decide) ?_
    refine lv_iadd hx hb dX7_behindMove_87 ?_
    refine lv_topi (fun t_87 et_87 => ?_)
    obtain ⟨k_87, hk_87, hm_87, hM_87⟩ := kt_addk et_87
    try simp only [kt_c0, kt_c1, kt_c2, kt_c3, kt_c4, kt_c8, kt_c9, kt_cm1, kt_c81, kt_c40, kt_c7, kt_c5, kt_c6, kt_c512, kt_c10, kt_c10000] at hk_87
    refine lv_iconst (v := 2) hx hb dX7_behindMove_88 (by decide) ?_
    refine lv_aload_n hx hb dX7_behindMove_89 rfl (lv_at hl 3 rfl) ?_
    refine va_getN (D := D) (ci := 8) (C := RX8) (T := TX8) (N := 3) hx hb hts iw_X7_behindMove_X8 hown hK hP 5 rfl rfl 2 (by decide) (va_Nw.use (w := .fieldLinkNest RX7 125 "KingTable$Stand" "turn" "I" "KingTable") rfl (hN _ (by decide +kernel))) (fun _ h9 => h9) rfl dX7_behindMove_90 ?_
    refine lv_imul hx hb dX7_behindMove_93 ?_
    refine lv_topi (fun t_93 et_93 => ?_)
    obtain ⟨k_93, hk_93, hm_93, hM_93⟩ := kt_mulk (C := 2) (et_93.trans (Int32.mul_comm _ _)) (by decide)
    try simp only [kt_c0, kt_c1, kt_c2, kt_c3, kt_c4, kt_c8, kt_c9, kt_cm1, kt_c81, kt_c40, kt_c7, kt_c5, kt_c6, kt_c512, kt_c10, kt_c10000] at hk_93
    refine lv_isub hx hb dX7_behindMove_94 ?_
    refine lv_topi (fun t_94 et_94 => ?_)
    obtain ⟨k_94, hk_94, hm_94, hM_94⟩ := kt_subk et_94
    exact kt_ri () hx hb hr hlk hS dX7_behindMove_95 hP hD (by show True; trivial)
  · have d_29 := c_29
    simp only [kt_lt, kt_le, kt_eq, kt_c0, kt_c1, kt_c2, kt_c3, kt_c4, kt_c8, kt_c9, kt_cm1, kt_c81, kt_c40, kt_c7, kt_c5, kt_c6, kt_c512, kt_c10, kt_c10000] at d_29
    refine lv_aload_n hx hb dX7_behindMove_32 rfl (lv_at hl 2 rfl) ?_
    refine va_get (D := D) (ci := 7) (C := RX7) (T := TX7) (N := 15) hx hb hts iw_X7_behindMove_X7 hown hK hP 0 rfl rfl 0 (by decide) (hts (.fieldLink RX7 50 "KingTable$Solver" "rules" "LKingTable$Rules;") (List.mem_cons_of_mem _ (List.mem_append_left _ (List.mem_append_left _ (List.mem_append_left _ (List.mem_append_left _ (List.mem_cons_of_mem _ (List.Mem.head _)))))))) (fun _ h9 => h9) rfl dX7_behindMove_33 ?_
    refine va_getN (D := D) (ci := 6) (C := RX6) (T := TX6) (N := 9) hx hb hts iw_X7_behindMove_X6 hown hK hP 1 rfl rfl 7 (by decide) (va_Nw.use (w := .fieldLinkNest RX7 177 "KingTable$Rules" "victims" "[I" "KingTable") rfl (hN _ (by decide +kernel))) (fun _ h9 => h9) rfl dX7_behindMove_36 ?_
    refine lv_iload hx hb dX7_behindMove_39 (lv_at hl 0 rfl) ?_
    have hi_2 : vp_in (nI k) 4 := by exact kt_in (by omega) (by omega)
    refine va_iald hx hb hK hP 3 0 rfl rfl hi_2 dX7_behindMove_41 ?_
    refine lv_topi (fun a_41 ea_41 => ?_)
    have ra_41 := hrv.get hi_2
    rw [← ea_41] at ra_41
    refine lv_istore (lv' := [(7, .int a_41), (6, .int (nI k)), (5, .int sh_), (0, .ref so), (1, .ref nw), (2, .int p1), (3, .int p2), (4, .int p3)]) hx hb dX7_behindMove_42 hl (by decide) rfl (fun ls hl => ?_)
    refine lv_iload hx hb dX7_behindMove_44 (lv_at hl 2 rfl) ?_
    refine lv_aload_n hx hb dX7_behindMove_46 rfl (lv_at hl 3 rfl) ?_
    refine va_get (D := D) (ci := 7) (C := RX7) (T := TX7) (N := 15) hx hb hts iw_X7_behindMove_X7 hown hK hP 0 rfl rfl 0 (by decide) (hts (.fieldLink RX7 50 "KingTable$Solver" "rules" "LKingTable$Rules;") (List.mem_cons_of_mem _ (List.mem_append_left _ (List.mem_append_left _ (List.mem_append_left _ (List.mem_append_left _ (List.mem_cons_of_mem _ (List.Mem.head _)))))))) (fun _ h9 => h9) rfl dX7_behindMove_47 ?_
    refine va_getN (D := D) (ci := 6) (C := RX6) (T := TX6) (N := 9) hx hb hts iw_X7_behindMove_X6 hown hK hP 1 rfl rfl 1 (by decide) (va_Nw.use (w := .fieldLinkNest RX7 78 "KingTable$Rules" "ground" "LKingTable$Ground;" "KingTable") rfl (hN _ (by decide +kernel))) (fun _ h9 => h9) rfl dX7_behindMove_50 ?_
    refine va_getN (D := D) (ci := 0) (C := RX0) (T := TX0) (N := 5) hx hb hts iw_X7_behindMove_X0 hown hK hP 2 rfl rfl 3 (by decide) (va_Nw.use (w := .fieldLinkNest RX7 115 "KingTable$Ground" "size" "I" "KingTable") rfl (hN _ (by decide +kernel))) (fun _ h9 => h9) rfl dX7_behindMove_53 ?_
    refine lv_aload_n hx hb dX7_behindMove_56 rfl (lv_at hl 4 rfl) ?_
    refine lv_iload hx hb dX7_behindMove_57 (lv_at hl 0 rfl) ?_
    refine kt_pi (wc := [(nw, .inr (8, [.ref sf, .ref sh, .int tu])), (sf, .inl (cI, 40, .inl ff))]) [5, 6] hP hD hS hA rfl (by decide) (fun hPc hDc => va_runV (As := [.int a_41]) (rest := [.int gs, .int sh_]) ⟨hx, hb, hml, hown, hts⟩ (c_X8_fieldOf l D cI cZ cB H.size nw sf sh tu ff a_41 (by first | assumption | omega | rfl | decide)) (cwV 1 hts gX7_behindMove_X8_fieldOf rfl rfl rfl (by decide +kernel) ⟨Nat.le_of_ble_eq_true rfl, Nat.le_of_ble_eq_true rfl⟩) (kt_preV hN hK hPc hDc 0 (ci := 8) (q := (RX8, TX8, 3)) rfl rfl) rfl rfl hl.1 rfl (lv_room (Nat.le_of_ble_eq_true rfl)) dX7_behindMove_59 ⟨Nat.le_of_ble_eq_true rfl, Nat.le_of_ble_eq_true rfl⟩) (fun r_59 _ H locs hw_59 hP hS => ?_)
    refine lv_isub hx hb dX7_behindMove_62 ?_
    refine lv_topi (fun t_62 et_62 => ?_)
    obtain ⟨k_62, hk_62, hm_62, hM_62⟩ := kt_subk et_62
    refine lv_aload_n hx hb dX7_behindMove_63 rfl (lv_at hl 3 rfl) ?_
    refine va_get (D := D) (ci := 7) (C := RX7) (T := TX7) (N := 15) hx hb hts iw_X7_behindMove_X7 hown hK hP 0 rfl rfl 3 (by decide) (hts (.fieldLink RX7 25 "KingTable$Solver" "powers" "[I") (List.mem_cons_of_mem _ (List.mem_append_left _ (List.mem_append_left _ (List.mem_append_left _ (List.mem_append_left _ (List.Mem.head _))))))) (fun _ h9 => h9) rfl dX7_behindMove_64 ?_
    refine lv_iload hx hb dX7_behindMove_67 (lv_at hl 0 rfl) ?_
    have hi_3 : vp_in a_41 40 := by exact kt_in (by omega) (by omega)
    refine va_iald hx hb hK hP 4 0 rfl rfl hi_3 dX7_behindMove_69 ?_
    refine lv_topi (fun a_69 ea_69 => ?_)
    refine lv_imul hx hb dX7_behindMove_70 ?_
    refine lv_topi (fun t_70 et_70 => ?_)
    obtain ⟨k_70, hk_70, hm_70, hM_70⟩ := kt_mulxk et_70
    refine lv_iadd hx hb dX7_behindMove_71 ?_
    refine lv_topi (fun t_71 et_71 => ?_)
    obtain ⟨k_71, hk_71, hm_71, hM_71⟩ := kt_addk et_71
    refine lv_istore (lv' := [(5, .int t_71), (7, .int a_41), (6, .int (nI k)), (0, .ref so), (1, .ref nw), (2, .int p1), (3, .int p2), (4, .int p3)]) hx hb dX7_behindMove_72 hl (by decide) rfl (fun ls hl => ?_)
    refine lv_iinc (v := nI (k + 1)) (lv' := [(6, .int (nI (k + 1))), (5, .int t_71), (7, .int a_41), (0, .ref so), (1, .ref nw), (2, .int p1), (3, .int p2), (4, .int p3)]) hx hb dX7_behindMove_74 hl (k := 2) rfl (nI_1 _) (by decide) rfl (fun ls hl => ?_)
    refine lv_goto (tgt := 20) hx hb dX7_behindMove_77 (by decide) ?_
    exact ih_20 ((k + 1), t_71) (by show (k + 1) ≤ 4 ∧ 4 < (k + 1) + n_20; omega) H _ hP hD hS ls (lv_sub hl [0, 1, 3, 4, 5, 6, 7] rfl)

theorem iw_X7_decide_X7 : ∀ w ∈ wsX70, w ∈ wsX7_decide := fun _ h => kt_wp_X7_decide__X70 h
set_option maxHeartbeats 4000000 in
set_option maxRecDepth 100000 in
theorem c_X7_decide (l : Launch) (D : va_G) (cI cZ cB : ClassId) (sz : Nat) (so : Nat) (ru : Nat) (tr : Nat) (lk : Nat) (vp : Nat) (vd : Nat) (vt : Nat) (vg : Nat) (vw : Nat) (ve : Nat) (vo : Nat) (vq : Nat) (qd : Int32) (pp : Int32) (ct : Int32) (sv : Int32) (LW : Nat) (LH : Nat) (LS : Nat) (LQ : Nat) (wo : Nat → Int32) (de : Nat → Int32) (qu : Nat → Int32) (p1 : Int32) (p2 : Int32) (p3 : Int32) (hlw : LW ≤ 10000) (hlh : LH ≤ 10000) (hls : LS ≤ 4000000) (hlq : LQ ≤ LW ∧ LQ ≤ LH) (hqd : 0 ≤ qd.toInt ∧ qd.toInt ≤ (LW : Int)) (hwo : kt_r wo LW (-1) 2) (hqu : kt_r qu LW 0 ((LQ : Int) - 1)) (hp1 : 0 ≤ p1.toInt ∧ p1.toInt < (LQ : Int)) (hp2 : -1 ≤ p2.toInt ∧ p2.toInt ≤ 2) : kt_Mv l yX7_decide wsX7_decide { frames := 0, cells := 0, slots := 0, locals := 0 } D (kt_ty cI cZ cB) [.ref so, .int p1, .int p2, .int p3] sz [(so, .inr (7, [.ref ru, .ref tr, .ref lk, .ref vp, .ref vd, .ref vt, .ref vg, .ref vw, .ref ve, .ref vo, .ref vq, .int qd, .int pp, .int ct, .int sv])), (vw, .inl (cI, LW, .inl wo)), (ve, .inl (cI, LW, .inl de)), (vq, .inl (cI, LW, .inl qu))] (fun (u : Int32 × (Nat → Int32) × (Nat → Int32) × (Nat → Int32)) => (0 ≤ u.1.toInt ∧ u.1.toInt ≤ (LW : Int)) ∧ kt_r u.2.1 LW (-1) 2 ∧ kt_r u.2.2.2 LW 0 ((LQ : Int) - 1)) (fun (u : Int32 × (Nat → Int32) × (Nat → Int32) × (Nat → Int32)) => [(so, .inr (7, [.ref ru, .ref tr, .ref lk, .ref vp, .ref vd, .ref vt, .ref vg, .ref vw, .ref ve, .ref vo, .ref vq, .int u.1, .int pp, .int ct, .int sv])), (vw, .inl (cI, LW, .inl u.2.1)), (ve, .inl (cI, LW, .inl u.2.2.1)), (vq, .inl (cI, LW, .inl u.2.2.2))]) 0 0 := by
  refine kt_Mv.of (cc := cX7_decide) (maxL := 4) (ret := none) (by decide) rfl (Nat.le_of_ble_eq_true rfl) ?_
  intro p e s m below meth c A ls H hAt hP hD hS hl
  obtain ⟨hx, hb, hr, hml, hown, hts, hN, hK, hlk, hnm, hA⟩ := hAt
  have hl : lv_has ls 4 [(0, .ref so), (1, .int p1), (2, .int p2), (3, .int p3)] := hl
  have hown : s.vm.findClass RX7 = some m.cls := hown
  have hLWi : (nI LW).toInt = (LW : Int) := kt_nI (by omega)
  have hLHi : (nI LH).toInt = (LH : Int) := kt_nI (by omega)
  have hLSi : (nI LS).toInt = (LS : Int) := kt_nI (by omega)
  refine lv_aload_n hx hb dX7_decide_0 rfl (lv_at hl 0 rfl) ?_
  refine va_get (D := D) (ci := 7) (C := RX7) (T := TX7) (N := 15) hx hb hts iw_X7_decide_X7 hown hK hP 0 rfl rfl 11 (by decide) (hts (.fieldLink RX7 100 "KingTable$Solver" "queued" "I") (List.mem_cons_of_mem _ (List.mem_append_left _ (List.Mem.head _)))) (fun _ h9 => h9) rfl dX7_decide_1 ?_
  refine lv_aload_n hx hb dX7_decide_4 rfl (lv_at hl 0 rfl) ?_
  refine va_get (D := D) (ci := 7) (C := RX7) (T := TX7) (N := 15) hx hb hts iw_X7_decide_X7 hown hK hP 0 rfl rfl 10 (by decide) (hts (.fieldLink RX7 47 "KingTable$Solver" "queue" "[I") (List.mem_cons_of_mem _ (List.mem_append_left _ (List.mem_cons_of_mem _ (List.Mem.head _))))) (fun _ h9 => h9) rfl dX7_decide_5 ?_
  refine va_alen hx hb hK hP 3 0 rfl rfl (v := nI LW) rfl dX7_decide_8 ?_
  refine lv_icmp_lt (tgt := 13) hx hb dX7_decide_9 (by decide) (fun c_9 => ?_) (fun c_9 => ?_)
  · have d_9 := c_9
    simp only [kt_lt, kt_le, kt_eq, kt_c0, kt_c1, kt_c2, kt_c3, kt_c4, kt_c8, kt_c9, kt_cm1, kt_c81, kt_c40, kt_c7, kt_c5, kt_c6, kt_c512, kt_c10, kt_c10000] at d_9
    refine lv_aload_n hx hb dX7_decide_13 rfl (lv_at hl 0 rfl) ?_
    refine va_get (D := D) (ci := 7) (C := RX7) (T := TX7) (N := 15) hx hb hts iw_X7_decide_X7 hown hK hP 0 rfl rfl 7 (by decide) (hts (.fieldLink RX7 38 "KingTable$Solver" "worths" "[I") (List.mem_cons_of_mem _ (List.mem_append_left _ (List.mem_cons_of_mem _ (List.mem_cons_of_mem _ (List.Mem.head _)))))) (fun _ h9 => h9) rfl dX7_decide_14 ?_
    refine lv_iload_n hx hb dX7_decide_17 rfl (lv_at hl 1 rfl) ?_
    refine lv_iload_n hx hb dX7_decide_18 rfl (lv_at hl 2 rfl) ?_
    have hi_1 : vp_in p1 LW := by exact kt_in (by omega) (by omega)
    refine va_iast hx hb hK hP hD hS 1 0 rfl rfl hi_1 dX7_decide_19 (fun H locs hP hD hS => ?_)
    have hwo : kt_r (upd wo p1.toNatClampNeg p2) LW (-1) 2 := hwo.upd (by omega) (by omega)
    have hP : va_P D vwCl [(so, .inr (7, [.ref ru, .ref tr, .ref lk, .ref vp, .ref vd, .ref vt, .ref vg, .ref vw, .ref ve, .ref vo, .ref vq, .int qd, .int pp, .int ct, .int sv])), (vw, .inl (cI, LW, .inl (upd wo p1.toNatClampNeg p2))), (ve, .inl (cI, LW, .inl de)), (vq, .inl (cI, LW, .inl qu))] H := hP
    have hD : va_D A [(so, .inr (7, [.ref ru, .ref tr, .ref lk, .ref vp, .ref vd, .ref vt, .ref vg, .ref vw, .ref ve, .ref vo, .ref vq, .int qd, .int pp, .int ct, .int sv])), (vw, .inl (cI, LW, .inl (upd wo p1.toNatClampNeg p2))), (ve, .inl (cI, LW, .inl de)), (vq, .inl (cI, LW, .inl qu))] := hD
    refine lv_aload_n hx hb dX7_decide_20 rfl (lv_at hl 0 rfl) ?_
    refine va_get (D := D) (ci := 7) (C := RX7) (T := TX7) (N := 15) hx hb hts iw_X7_decide_X7 hown hK hP 0 rfl rfl 8 (by decide) (hts (.fieldLink RX7 41 "KingTable$Solver" "deeps" "[I") (List.mem_cons_of_mem _ (List.mem_append_left _ (List.mem_cons_of_mem _ (List.mem_cons_of_mem _ (List.mem_cons_of_mem _ (List.Mem.head _))))))) (fun _ h9 => h9) rfl dX7_decide_21 ?_
    refine lv_iload_n hx hb dX7_decide_24 rfl (lv_at hl 1 rfl) ?_
    refine lv_iload_n hx hb dX7_decide_25 rfl (lv_at hl 3 rfl) ?_
    have hi_2 : vp_in p1 LW := by exact kt_in (by omega) (by omega)
    refine va_iast hx hb hK hP hD hS 2 0 rfl rfl hi_2 dX7_decide_26 (fun H locs hP hD hS => ?_)
    have hP : va_P D vwCl [(so, .inr (7, [.ref ru, .ref tr, .ref lk, .ref vp, .ref vd, .ref vt, .ref vg, .ref vw, .ref ve, .ref vo, .ref vq, .int qd, .int pp, .int ct, .int sv])), (vw, .inl (cI, LW, .inl (upd wo p1.toNatClampNeg p2))), (ve, .inl (cI, LW, .inl (upd de p1.toNatClampNeg p3))), (vq, .inl (cI, LW, .inl qu))] H := hP
    have hD : va_D A [(so, .inr (7, [.ref ru, .ref tr, .ref lk, .ref vp, .ref vd, .ref vt, .ref vg, .ref vw, .ref ve, .ref vo, .ref vq, .int qd, .int pp, .int ct, .int sv])), (vw, .inl (cI, LW, .inl (upd wo p1.toNatClampNeg p2))), (ve, .inl (cI, LW, .inl (upd de p1.toNatClampNeg p3))), (vq, .inl (cI, LW, .inl qu))] := hD
    refine lv_aload_n hx hb dX7_decide_27 rfl (lv_at hl 0 rfl) ?_
    refine va_get (D := D) (ci := 7) (C := RX7) (T := TX7) (N := 15) hx hb hts iw_X7_decide_X7 hown hK hP 0 rfl rfl 10 (by decide) (hts (.fieldLink RX7 47 "KingTable$Solver" "queue" "[I") (List.mem_cons_of_mem _ (List.mem_append_left _ (List.mem_cons_of_mem _ (List.Mem.head _))))) (fun _ h9 => h9) rfl dX7_decide_28 ?_
    refine lv_aload_n hx hb dX7_decide_31 rfl (lv_at hl 0 rfl) ?_
    refine va_get (D := D) (ci := 7) (C := RX7) (T := TX7) (N := 15) hx hb hts iw_X7_decide_X7 hown hK hP 0 rfl rfl 11 (by decide) (hts (.fieldLink RX7 100 "KingTable$Solver" "queued" "I") (List.mem_cons_of_mem _ (List.mem_append_left _ (List.Mem.head _)))) (fun _ h9 => h9) rfl dX7_decide_32 ?_
    refine lv_iload_n hx hb dX7_decide_35 rfl (lv_at hl 1 rfl) ?_
    have hi_3 : vp_in qd LW := by exact kt_in (by omega) (by omega)
    refine va_iast hx hb hK hP hD hS 3 0 rfl rfl hi_3 dX7_decide_36 (fun H locs hP hD hS => ?_)
    have hqu : kt_r (upd qu qd.toNatClampNeg p1) LW 0 ((LQ : Int) - 1) := hqu.upd (by omega) (by omega)
    have hP : va_P D vwCl [(so, .inr (7, [.ref ru, .ref tr, .ref lk, .ref vp, .ref vd, .ref vt, .ref vg, .ref vw, .ref ve, .ref vo, .ref vq, .int qd, .int pp, .int ct, .int sv])), (vw, .inl (cI, LW, .inl (upd wo p1.toNatClampNeg p2))), (ve, .inl (cI, LW, .inl (upd de p1.toNatClampNeg p3))), (vq, .inl (cI, LW, .inl (upd qu qd.toNatClampNeg p1)))] H := hP
    have hD : va_D A [(so, .inr (7, [.ref ru, .ref tr, .ref lk, .ref vp, .ref vd, .ref vt, .ref vg, .ref vw, .ref ve, .ref vo, .ref vq, .int qd, .int pp, .int ct, .int sv])), (vw, .inl (cI, LW, .inl (upd wo p1.toNatClampNeg p2))), (ve, .inl (cI, LW, .inl (upd de p1.toNatClampNeg p3))), (vq, .inl (cI, LW, .inl (upd qu qd.toNatClampNeg p1)))] := hD
    refine lv_aload_n hx hb dX7_decide_37 rfl (lv_at hl 0 rfl) ?_
    refine lv_dup hx hb dX7_decide_38 rfl ?_
    refine va_get (D := D) (ci := 7) (C := RX7) (T := TX7) (N := 15) hx hb hts iw_X7_decide_X7 hown hK hP 0 rfl rfl 11 (by decide) (hts (.fieldLink RX7 100 "KingTable$Solver" "queued" "I") (List.mem_cons_of_mem _ (List.mem_append_left _ (List.Mem.head _)))) (fun _ h9 => h9) rfl dX7_decide_39 ?_
    refine lv_iconst (v := 1) hx hb dX7_decide_42 (by decide) ?_
    refine lv_iadd hx hb dX7_decide_43 ?_
    refine lv_topi (fun t_43 et_43 => ?_)
    obtain ⟨k_43, hk_43, hm_43, hM_43⟩ := kt_addk et_43
    try simp only [kt_c0, kt_c1, kt_c2, kt_c3, kt_c4, kt_c8, kt_c9, kt_cm1, kt_c81, kt_c40, kt_c7, kt_c5, kt_c6, kt_c512, kt_c10, kt_c10000] at hk_43
    refine va_put (D := D) (ci := 7) (v := .int t_43) (ty := .int) (C := RX7) (T := TX7) (N := 15) hx hb hts iw_X7_decide_X7 tyX7 tyX7_ok nmX7 hown hK hP hD hS 0 rfl rfl 11 (by decide) (hts (.fieldLink RX7 100 "KingTable$Solver" "queued" "I") (List.mem_cons_of_mem _ (List.mem_append_left _ (List.Mem.head _)))) (fun _ h9 => h9) rfl (by decide +kernel) rfl rfl (Nat.le_of_ble_eq_true rfl) dX7_decide_44 (fun H locs hP hD hS => ?_)
    have hP : va_P D vwCl [(so, .inr (7, [.ref ru, .ref tr, .ref lk, .ref vp, .ref vd, .ref vt, .ref vg, .ref vw, .ref ve, .ref vo, .ref vq, .int t_43, .int pp, .int ct, .int sv])), (vw, .inl (cI, LW, .inl (upd wo p1.toNatClampNeg p2))), (ve, .inl (cI, LW, .inl (upd de p1.toNatClampNeg p3))), (vq, .inl (cI, LW, .inl (upd qu qd.toNatClampNeg p1)))] H := hP
    have hD : va_D A [(so, .inr (7, [.ref ru, .ref tr, .ref lk, .ref vp, .ref vd, .ref vt, .ref vg, .ref vw, .ref ve, .ref vo, .ref vq, .int t_43, .int pp, .int ct, .int sv])), (vw, .inl (cI, LW, .inl (upd wo p1.toNatClampNeg p2))), (ve, .inl (cI, LW, .inl (upd de p1.toNatClampNeg p3))), (vq, .inl (cI, LW, .inl (upd qu qd.toNatClampNeg p1)))] := hD
    exact kt_rv (t_43, upd wo p1.toNatClampNeg p2, upd de p1.toNatClampNeg p3, upd qu qd.toNatClampNeg p1) hx hb hr hlk hS dX7_decide_47 hP hD (by show (0 ≤ t_43.toInt ∧ t_43.toInt ≤ (LW : Int)) ∧ kt_r (upd wo p1.toNatClampNeg p2) LW (-1) 2 ∧ kt_r (upd qu qd.toNatClampNeg p1) LW 0 ((LQ : Int) - 1); exact ⟨by omega, hwo, hqu⟩)
  · have d_9 := c_9
    simp only [kt_lt, kt_le, kt_eq, kt_c0, kt_c1, kt_c2, kt_c3, kt_c4, kt_c8, kt_c9, kt_cm1, kt_c81, kt_c40, kt_c7, kt_c5, kt_c6, kt_c512, kt_c10, kt_c10000] at d_9
    exact kt_rv (qd, wo, de, qu) hx hb hr hlk hS dX7_decide_12 hP hD (by show (0 ≤ qd.toInt ∧ qd.toInt ≤ (LW : Int)) ∧ kt_r wo LW (-1) 2 ∧ kt_r qu LW 0 ((LQ : Int) - 1); exact ⟨by omega, hwo, hqu⟩)

theorem iw_X7_inform_X7 : ∀ w ∈ wsX70, w ∈ wsX7_inform := fun _ h => kt_wp_X7_inform__X70 h
set_option maxHeartbeats 4000000 in
set_option maxRecDepth 100000 in
theorem c_X7_inform (l : Launch) (D : va_G) (cI cZ cB : ClassId) (sz : Nat) (so : Nat) (ru : Nat) (tr : Nat) (lk : Nat) (vp : Nat) (vd : Nat) (vt : Nat) (vg : Nat) (vw : Nat) (ve : Nat) (vo : Nat) (vq : Nat) (qd : Int32) (pp : Int32) (ct : Int32) (sv : Int32) (LW : Nat) (LH : Nat) (LS : Nat) (LQ : Nat) (wo : Nat → Int32) (de : Nat → Int32) (qu : Nat → Int32) (op : Nat → Int32) (p1 : Int32) (p2 : Int32) (p3 : Int32) (hlw : LW ≤ 10000) (hlh : LH ≤ 10000) (hls : LS ≤ 4000000) (hlq : LQ ≤ LW ∧ LQ ≤ LH) (hqd : 0 ≤ qd.toInt ∧ qd.toInt ≤ (LW : Int)) (hwo : kt_r wo LW (-1) 2) (hqu : kt_r qu LW 0 ((LQ : Int) - 1)) (hp1 : 0 ≤ p1.toInt ∧ p1.toInt < (LQ : Int)) (hp2 : -1 ≤ p2.toInt ∧ p2.toInt ≤ 2) : kt_Mv l yX7_inform wsX7_inform { frames := 1, cells := 0, slots := 0, locals := 23 } D (kt_ty cI cZ cB) [.ref so, .int p1, .int p2, .int p3] sz [(so, .inr (7, [.ref ru, .ref tr, .ref lk, .ref vp, .ref vd, .ref vt, .ref vg, .ref vw, .ref ve, .ref vo, .ref vq, .int qd, .int pp, .int ct, .int sv])), (vw, .inl (cI, LW, .inl wo)), (ve, .inl (cI, LW, .inl de)), (vq, .inl (cI, LW, .inl qu)), (vo, .inl (cI, LW, .inl op))] (fun (u : Int32 × (Nat → Int32) × (Nat → Int32) × (Nat → Int32) × (Nat → Int32)) => (0 ≤ u.1.toInt ∧ u.1.toInt ≤ (LW : Int)) ∧ kt_r u.2.1 LW (-1) 2 ∧ kt_r u.2.2.2.1 LW 0 ((LQ : Int) - 1)) (fun (u : Int32 × (Nat → Int32) × (Nat → Int32) × (Nat → Int32) × (Nat → Int32)) => [(so, .inr (7, [.ref ru, .ref tr, .ref lk, .ref vp, .ref vd, .ref vt, .ref vg, .ref vw, .ref ve, .ref vo, .ref vq, .int u.1, .int pp, .int ct, .int sv])), (vw, .inl (cI, LW, .inl u.2.1)), (ve, .inl (cI, LW, .inl u.2.2.1)), (vq, .inl (cI, LW, .inl u.2.2.2.1)), (vo, .inl (cI, LW, .inl u.2.2.2.2))]) 0 0 := by
  refine kt_Mv.of (cc := cX7_inform) (maxL := 4) (ret := none) (by decide) rfl (Nat.le_of_ble_eq_true rfl) ?_
  intro p e s m below meth c A ls H hAt hP hD hS hl
  obtain ⟨hx, hb, hr, hml, hown, hts, hN, hK, hlk, hnm, hA⟩ := hAt
  have hl : lv_has ls 4 [(0, .ref so), (1, .int p1), (2, .int p2), (3, .int p3)] := hl
  have hown : s.vm.findClass RX7 = some m.cls := hown
  have hLWi : (nI LW).toInt = (LW : Int) := kt_nI (by omega)
  have hLHi : (nI LH).toInt = (LH : Int) := kt_nI (by omega)
  have hLSi : (nI LS).toInt = (LS : Int) := kt_nI (by omega)
  refine lv_aload_n hx hb dX7_inform_0 rfl (lv_at hl 0 rfl) ?_
  refine va_get (D := D) (ci := 7) (C := RX7) (T := TX7) (N := 15) hx hb hts iw_X7_inform_X7 hown hK hP 0 rfl rfl 7 (by decide) (hts (.fieldLink RX7 38 "KingTable$Solver" "worths" "[I") (List.mem_cons_of_mem _ (List.mem_append_left _ (List.Mem.head _)))) (fun _ h9 => h9) rfl dX7_inform_1 ?_
  refine lv_iload_n hx hb dX7_inform_4 rfl (lv_at hl 1 rfl) ?_
  have hi_1 : vp_in p1 LW := by exact kt_in (by omega) (by omega)
  refine va_iald hx hb hK hP 1 0 rfl rfl hi_1 dX7_inform_5 ?_
  refine lv_topi (fun a_5 ea_5 => ?_)
  have ra_5 := hwo.get hi_1
  rw [← ea_5] at ra_5
  refine lv_iconst (v := 2) hx hb dX7_inform_6 (by decide) ?_
  refine lv_icmp_eq (tgt := 11) hx hb dX7_inform_7 (by decide) (fun c_7 => ?_) (fun c_7 => ?_)
  · have d_7 := c_7
    simp only [kt_lt, kt_le, kt_eq, kt_c0, kt_c1, kt_c2, kt_c3, kt_c4, kt_c8, kt_c9, kt_cm1, kt_c81, kt_c40, kt_c7, kt_c5, kt_c6, kt_c512, kt_c10, kt_c10000] at d_7
    refine lv_aload_n hx hb dX7_inform_11 rfl (lv_at hl 0 rfl) ?_
    refine va_get (D := D) (ci := 7) (C := RX7) (T := TX7) (N := 15) hx hb hts iw_X7_inform_X7 hown hK hP 0 rfl rfl 9 (by decide) (hts (.fieldLink RX7 44 "KingTable$Solver" "open" "[I") (List.mem_cons_of_mem _ (List.mem_append_left _ (List.mem_cons_of_mem _ (List.Mem.head _))))) (fun _ h9 => h9) rfl dX7_inform_12 ?_
    refine lv_iload_n hx hb dX7_inform_15 rfl (lv_at hl 1 rfl) ?_
    refine lv_dup2_11 hx hb dX7_inform_16 rfl rfl ?_
    have hi_2 : vp_in p1 LW := by exact kt_in (by omega) (by omega)
    refine va_iald hx hb hK hP 4 0 rfl rfl hi_2 dX7_inform_17 ?_
    refine lv_topi (fun a_17 ea_17 => ?_)
    refine lv_iconst (v := 1) hx hb dX7_inform_18 (by decide) ?_
    refine lv_isub hx hb dX7_inform_19 ?_
    refine lv_topi (fun t_19 et_19 => ?_)
    obtain ⟨k_19, hk_19, hm_19, hM_19⟩ := kt_subk et_19
    try simp only [kt_c0, kt_c1, kt_c2, kt_c3, kt_c4, kt_c8, kt_c9, kt_cm1, kt_c81, kt_c40, kt_c7, kt_c5, kt_c6, kt_c512, kt_c10, kt_c10000] at hk_19
    have hi_3 : vp_in p1 LW := by exact kt_in (by omega) (by omega)
    refine va_iast hx hb hK hP hD hS 4 0 rfl rfl hi_3 dX7_inform_20 (fun H locs hP hD hS => ?_)
    have hP : va_P D vwCl [(so, .inr (7, [.ref ru, .ref tr, .ref lk, .ref vp, .ref vd, .ref vt, .ref vg, .ref vw, .ref ve, .ref vo, .ref vq, .int qd, .int pp, .int ct, .int sv])), (vw, .inl (cI, LW, .inl wo)), (ve, .inl (cI, LW, .inl de)), (vq, .inl (cI, LW, .inl qu)), (vo, .inl (cI, LW, .inl (upd op p1.toNatClampNeg t_19)))] H := hP
    have hD : va_D A [(so, .inr (7, [.ref ru, .ref tr, .ref lk, .ref vp, .ref vd, .ref vt, .ref vg, .ref vw, .ref ve, .ref vo, .ref vq, .int qd, .int pp, .int ct, .int sv])), (vw, .inl (cI, LW, .inl wo)), (ve, .inl (cI, LW, .inl de)), (vq, .inl (cI, LW, .inl qu)), (vo, .inl (cI, LW, .inl (upd op p1.toNatClampNeg t_19)))] := hD
    refine lv_iload_n hx hb dX7_inform_21 rfl (lv_at hl 2 rfl) ?_
    refine lv_iload_n hx hb dX7_inform_22 rfl (lv_at hl 1 rfl) ?_
    refine lv_iconst (v := 1) hx hb dX7_inform_23 (by decide) ?_
    refine lv_iand hx hb dX7_inform_24 ?_
    refine lv_topi (fun t_24 et_24 => ?_)
    have ha_24 : 0 ≤ t_24.toInt ∧ t_24.toInt ≤ 1 := by rw [et_24]; exact kt_and1 _
    refine lv_icmp_eq (tgt := 37) hx hb dX7_inform_25 (by decide) (fun c_25 => ?_) (fun c_25 => ?_)
    · have d_25 := c_25
      simp only [kt_lt, kt_le, kt_eq, kt_c0, kt_c1, kt_c2, kt_c3, kt_c4, kt_c8, kt_c9, kt_cm1, kt_c81, kt_c40, kt_c7, kt_c5, kt_c6, kt_c512, kt_c10, kt_c10000] at d_25
      refine lv_aload_n hx hb dX7_inform_37 rfl (lv_at hl 0 rfl) ?_
      refine lv_iload_n hx hb dX7_inform_38 rfl (lv_at hl 1 rfl) ?_
      refine lv_iload_n hx hb dX7_inform_39 rfl (lv_at hl 2 rfl) ?_
      refine lv_iload_n hx hb dX7_inform_40 rfl (lv_at hl 3 rfl) ?_
      refine kt_bv (wc := [(so, .inr (7, [.ref ru, .ref tr, .ref lk, .ref vp, .ref vd, .ref vt, .ref vg, .ref vw, .ref ve, .ref vo, .ref vq, .int qd, .int pp, .int ct, .int sv])), (vw, .inl (cI, LW, .inl wo)), (ve, .inl (cI, LW, .inl de)), (vq, .inl (cI, LW, .inl qu))]) (wr := [(vo, .inl (cI, LW, .inl (upd op p1.toNatClampNeg t_19)))]) [0, 1, 2, 3] [4] hP hD hS hA rfl rfl (by decide) (by decide) (by decide) (fun hPc hDc => va_runV (As := [.int p1, .int p2, .int p3]) (rest := []) ⟨hx, hb, hml, hown, hts⟩ (c_X7_decide l D cI cZ cB H.size so ru tr lk vp vd vt vg vw ve vo vq qd pp ct sv LW LH LS LQ wo de qu p1 p2 p3 (by first | assumption | omega | rfl | decide) (by first | assumption | omega | rfl | decide) (by first | assumption | omega | rfl | decide) (by first | assumption | omega | rfl | decide) (by first | assumption | omega | rfl | decide) (by first | assumption | omega | rfl | decide) (by first | assumption | omega | rfl | decide) (by first | assumption | omega | rfl | decide) (by first | assumption | omega | rfl | decide)) (cwV 3 hts gX7_inform_X7_decide rfl rfl rfl (by decide +kernel) ⟨Nat.le_of_ble_eq_true rfl, Nat.le_of_ble_eq_true rfl⟩) (kt_preV hN hK hPc hDc 0 (ci := 7) (q := (RX7, TX7, 15)) rfl rfl) rfl rfl hl.1 rfl (lv_room (Nat.le_of_ble_eq_true rfl)) dX7_inform_41 ⟨Nat.le_of_ble_eq_true rfl, Nat.le_of_ble_eq_true rfl⟩) (fun u_ H locs hw_41 hP hD hS => ?_)
      obtain ⟨qd2_41, wo2_41, de2_41, qu2_41⟩ := u_
      have hP : va_P D vwCl [(so, .inr (7, [.ref ru, .ref tr, .ref lk, .ref vp, .ref vd, .ref vt, .ref vg, .ref vw, .ref ve, .ref vo, .ref vq, .int qd2_41, .int pp, .int ct, .int sv])), (vw, .inl (cI, LW, .inl wo2_41)), (ve, .inl (cI, LW, .inl de2_41)), (vq, .inl (cI, LW, .inl qu2_41)), (vo, .inl (cI, LW, .inl (upd op p1.toNatClampNeg t_19)))] H := hP.sub [1, 2, 3, 4, 0] rfl
      have hD : va_D A [(so, .inr (7, [.ref ru, .ref tr, .ref lk, .ref vp, .ref vd, .ref vt, .ref vg, .ref vw, .ref ve, .ref vo, .ref vq, .int qd2_41, .int pp, .int ct, .int sv])), (vw, .inl (cI, LW, .inl wo2_41)), (ve, .inl (cI, LW, .inl de2_41)), (vq, .inl (cI, LW, .inl qu2_41)), (vo, .inl (cI, LW, .inl (upd op p1.toNatClampNeg t_19)))] := hD.sub [1, 2, 3, 4, 0] (by decide) rfl
      try dsimp only at hw_41
      obtain ⟨hqd, hwo, hqu⟩ := hw_41
      exact kt_rv (qd2_41, wo2_41, de2_41, qu2_41, upd op p1.toNatClampNeg t_19) hx hb hr hlk hS dX7_inform_44 hP hD (by show (0 ≤ qd2_41.toInt ∧ qd2_41.toInt ≤ (LW : Int)) ∧ kt_r wo2_41 LW (-1) 2 ∧ kt_r qu2_41 LW 0 ((LQ : Int) - 1); exact ⟨hqd, hwo, hqu⟩)
    · have d_25 := c_25
      simp only [kt_lt, kt_le, kt_eq, kt_c0, kt_c1, kt_c2, kt_c3, kt_c4, kt_c8, kt_c9, kt_cm1, kt_c81, kt_c40, kt_c7, kt_c5, kt_c6, kt_c512, kt_c10, kt_c10000] at d_25
      refine lv_aload_n hx hb dX7_inform_28 rfl (lv_at hl 0 rfl) ?_
      refine va_get (D := D) (ci := 7) (C := RX7) (T := TX7) (N := 15) hx hb hts iw_X7_inform_X7 hown hK hP 0 rfl rfl 9 (by decide) (hts (.fieldLink RX7 44 "KingTable$Solver" "open" "[I") (List.mem_cons_of_mem _ (List.mem_append_left _ (List.mem_cons_of_mem _ (List.Mem.head _))))) (fun _ h9 => h9) rfl dX7_inform_29 ?_
      refine lv_iload_n hx hb dX7_inform_32 rfl (lv_at hl 1 rfl) ?_
      have hi_4 : vp_in p1 LW := by exact kt_in (by omega) (by omega)
      refine va_iald hx hb hK hP 4 0 rfl rfl hi_4 dX7_inform_33 ?_
      refine lv_topi (fun a_33 ea_33 => ?_)
      refine lv_if_ne (tgt := 44) hx hb dX7_inform_34 (by decide) (fun c_34 => ?_) (fun c_34 => ?_)
      · have d_34 := c_34
        simp only [kt_lt, kt_le, kt_eq, kt_c0, kt_c1, kt_c2, kt_c3, kt_c4, kt_c8, kt_c9, kt_cm1, kt_c81, kt_c40, kt_c7, kt_c5, kt_c6, kt_c512, kt_c10, kt_c10000] at d_34
        exact kt_rv (qd, wo, de, qu, upd op p1.toNatClampNeg t_19) hx hb hr hlk hS dX7_inform_44 hP hD (by show (0 ≤ qd.toInt ∧ qd.toInt ≤ (LW : Int)) ∧ kt_r wo LW (-1) 2 ∧ kt_r qu LW 0 ((LQ : Int) - 1); exact ⟨hqd, hwo, hqu⟩)
      · have d_34 := c_34
        simp only [kt_lt, kt_le, kt_eq, kt_c0, kt_c1, kt_c2, kt_c3, kt_c4, kt_c8, kt_c9, kt_cm1, kt_c81, kt_c40, kt_c7, kt_c5, kt_c6, kt_c512, kt_c10, kt_c10000] at d_34
        refine lv_aload_n hx hb dX7_inform_37 rfl (lv_at hl 0 rfl) ?_
        refine lv_iload_n hx hb dX7_inform_38 rfl (lv_at hl 1 rfl) ?_
        refine lv_iload_n hx hb dX7_inform_39 rfl (lv_at hl 2 rfl) ?_
        refine lv_iload_n hx hb dX7_inform_40 rfl (lv_at hl 3 rfl) ?_
        refine kt_bv (wc := [(so, .inr (7, [.ref ru, .ref tr, .ref lk, .ref vp, .ref vd, .ref vt, .ref vg, .ref vw, .ref ve, .ref vo, .ref vq, .int qd, .int pp, .int ct, .int sv])), (vw, .inl (cI, LW, .inl wo)), (ve, .inl (cI, LW, .inl de)), (vq, .inl (cI, LW, .inl qu))]) (wr := [(vo, .inl (cI, LW, .inl (upd op p1.toNatClampNeg t_19)))]) [0, 1, 2, 3] [4] hP hD hS hA rfl rfl (by decide) (by decide) (by decide) (fun hPc hDc => va_runV (As := [.int p1, .int p2, .int p3]) (rest := []) ⟨hx, hb, hml, hown, hts⟩ (c_X7_decide l D cI cZ cB H.size so ru tr lk vp vd vt vg vw ve vo vq qd pp ct sv LW LH LS LQ wo de qu p1 p2 p3 (by first | assumption | omega | rfl | decide) (by first | assumption | omega | rfl | decide) (by first | assumption | omega | rfl | decide) (by first | assumption | omega | rfl | decide) (by first | assumption | omega | rfl | decide) (by first | assumption | omega | rfl | decide) (by first | assumption | omega | rfl | decide) (by first | assumption | omega | rfl | decide) (by first | assumption | omega | rfl | decide)) (cwV 3 hts gX7_inform_X7_decide rfl rfl rfl (by decide +kernel) ⟨Nat.le_of_ble_eq_true rfl, Nat.le_of_ble_eq_true rfl⟩) (kt_preV hN hK hPc hDc 0 (ci := 7) (q := (RX7, TX7, 15)) rfl rfl) rfl rfl hl.1 rfl (lv_room (Nat.le_of_ble_eq_true rfl)) dX7_inform_41 ⟨Nat.le_of_ble_eq_true rfl, Nat.le_of_ble_eq_true rfl⟩) (fun u_ H locs hw_41 hP hD hS => ?_)
        obtain ⟨qd2_41, wo2_41, de2_41, qu2_41⟩ := u_
        have hP : va_P D vwCl [(so, .inr (7, [.ref ru, .ref tr, .ref lk, .ref vp, .ref vd, .ref vt, .ref vg, .ref vw, .ref ve, .ref vo, .ref vq, .int qd2_41, .int pp, .int ct, .int sv])), (vw, .inl (cI, LW, .inl wo2_41)), (ve, .inl (cI, LW, .inl de2_41)), (vq, .inl (cI, LW, .inl qu2_41)), (vo, .inl (cI, LW, .inl (upd op p1.toNatClampNeg t_19)))] H := hP.sub [1, 2, 3, 4, 0] rfl
        have hD : va_D A [(so, .inr (7, [.ref ru, .ref tr, .ref lk, .ref vp, .ref vd, .ref vt, .ref vg, .ref vw, .ref ve, .ref vo, .ref vq, .int qd2_41, .int pp, .int ct, .int sv])), (vw, .inl (cI, LW, .inl wo2_41)), (ve, .inl (cI, LW, .inl de2_41)), (vq, .inl (cI, LW, .inl qu2_41)), (vo, .inl (cI, LW, .inl (upd op p1.toNatClampNeg t_19)))] := hD.sub [1, 2, 3, 4, 0] (by decide) rfl
        try dsimp only at hw_41
        obtain ⟨hqd, hwo, hqu⟩ := hw_41
        exact kt_rv (qd2_41, wo2_41, de2_41, qu2_41, upd op p1.toNatClampNeg t_19) hx hb hr hlk hS dX7_inform_44 hP hD (by show (0 ≤ qd2_41.toInt ∧ qd2_41.toInt ≤ (LW : Int)) ∧ kt_r wo2_41 LW (-1) 2 ∧ kt_r qu2_41 LW 0 ((LQ : Int) - 1); exact ⟨hqd, hwo, hqu⟩)
  · have d_7 := c_7
    simp only [kt_lt, kt_le, kt_eq, kt_c0, kt_c1, kt_c2, kt_c3, kt_c4, kt_c8, kt_c9, kt_cm1, kt_c81, kt_c40, kt_c7, kt_c5, kt_c6, kt_c512, kt_c10, kt_c10000] at d_7
    exact kt_rv (qd, wo, de, qu, op) hx hb hr hlk hS dX7_inform_10 hP hD (by show (0 ≤ qd.toInt ∧ qd.toInt ≤ (LW : Int)) ∧ kt_r wo LW (-1) 2 ∧ kt_r qu LW 0 ((LQ : Int) - 1); exact ⟨hqd, hwo, hqu⟩)

theorem iw_X7_spread_X7 : ∀ w ∈ wsX70, w ∈ wsX7_spread := fun _ h => kt_wp_X7_spread__X70 h
theorem iw_X7_spread_X2 : ∀ w ∈ wsX20, w ∈ wsX7_spread := fun _ h => kt_wp_X7_spread__X20 h
set_option maxHeartbeats 4000000 in
set_option maxRecDepth 100000 in
theorem c_X7_spread (l : Launch) (D : va_G) (cI cZ cB : ClassId) (sz : Nat) (so : Nat) (ru : Nat) (tr : Nat) (lk : Nat) (vp : Nat) (vd : Nat) (vt : Nat) (vg : Nat) (vw : Nat) (ve : Nat) (vo : Nat) (vq : Nat) (qd : Int32) (pp : Int32) (ct : Int32) (sv : Int32) (LW : Nat) (LH : Nat) (LS : Nat) (LQ : Nat) (wo : Nat → Int32) (de : Nat → Int32) (qu : Nat → Int32) (op : Nat → Int32) (kh : Nat) (ks : Nat) (kn : Nat) (us : Int32) (he : Nat → Int32) (sr : Nat → Int32) (ne : Nat → Int32) (hlw : LW ≤ 10000) (hlh : LH ≤ 10000) (hls : LS ≤ 4000000) (hlq : LQ ≤ LW ∧ LQ ≤ LH) (hqd : 0 ≤ qd.toInt ∧ qd.toInt ≤ (LW : Int)) (hwo : kt_r wo LW (-1) 2) (hqu : kt_r qu LW 0 ((LQ : Int) - 1)) (hus : 0 ≤ us.toInt ∧ us.toInt ≤ (LS : Int)) (hhe : kt_r he LH (-1) ((LS : Int) - 1)) (hsr : kt_r sr LS 0 ((LQ : Int) - 1)) (hne : kt_r ne LS (-1) ((LS : Int) - 1)) : kt_Mv l yX7_spread wsX7_spread { frames := 2, cells := 0, slots := 0, locals := 46 } D (kt_ty cI cZ cB) [.ref so] sz [(so, .inr (7, [.ref ru, .ref tr, .ref lk, .ref vp, .ref vd, .ref vt, .ref vg, .ref vw, .ref ve, .ref vo, .ref vq, .int qd, .int pp, .int ct, .int sv])), (vw, .inl (cI, LW, .inl wo)), (ve, .inl (cI, LW, .inl de)), (vq, .inl (cI, LW, .inl qu)), (vo, .inl (cI, LW, .inl op)), (lk, .inr (2, [.ref kh, .ref ks, .ref kn, .int us])), (kh, .inl (cI, LH, .inl he)), (ks, .inl (cI, LS, .inl sr)), (kn, .inl (cI, LS, .inl ne))] (fun (u : Int32 × (Nat → Int32) × (Nat → Int32) × (Nat → Int32) × (Nat → Int32)) => (0 ≤ u.1.toInt ∧ u.1.toInt ≤ (LW : Int)) ∧ kt_r u.2.1 LW (-1) 2 ∧ kt_r u.2.2.2.1 LW 0 ((LQ : Int) - 1)) (fun (u : Int32 × (Nat → Int32) × (Nat → Int32) × (Nat → Int32) × (Nat → Int32)) => [(so, .inr (7, [.ref ru, .ref tr, .ref lk, .ref vp, .ref vd, .ref vt, .ref vg, .ref vw, .ref ve, .ref vo, .ref vq, .int u.1, .int pp, .int ct, .int sv])), (vw, .inl (cI, LW, .inl u.2.1)), (ve, .inl (cI, LW, .inl u.2.2.1)), (vq, .inl (cI, LW, .inl u.2.2.2.1)), (vo, .inl (cI, LW, .inl u.2.2.2.2)), (lk, .inr (2, [.ref kh, .ref ks, .ref kn, .int us])), (kh, .inl (cI, LH, .inl he)), (ks, .inl (cI, LS, .inl sr)), (kn, .inl (cI, LS, .inl ne))]) 0 0 := by
  refine kt_Mv.of (cc := cX7_spread) (maxL := 5) (ret := none) (by decide) rfl (Nat.le_of_ble_eq_true rfl) ?_
  intro p e s m below meth c A ls H hAt hP hD hS hl
  obtain ⟨hx, hb, hr, hml, hown, hts, hN, hK, hlk, hnm, hA⟩ := hAt
  have hl : lv_has ls 5 [(0, .ref so)] := hl
  have hown : s.vm.findClass RX7 = some m.cls := hown
  have hLWi : (nI LW).toInt = (LW : Int) := kt_nI (by omega)
  have hLHi : (nI LH).toInt = (LH : Int) := kt_nI (by omega)
  have hLSi : (nI LS).toInt = (LS : Int) := kt_nI (by omega)
  refine lv_iconst (v := 0) hx hb dX7_spread_0 (by decide) ?_
  refine lv_istore_n (lv' := [(1, .int 0), (0, .ref so)]) hx hb dX7_spread_1 rfl hl (by decide) rfl (fun ls hl => ?_)
  refine kt_loop (σ := Int32 × Int32 × (Nat → Int32) × (Nat → Int32) × (Nat → Int32) × (Nat → Int32)) 2 5 (fun u => [(so, .inr (7, [.ref ru, .ref tr, .ref lk, .ref vp, .ref vd, .ref vt, .ref vg, .ref vw, .ref ve, .ref vo, .ref vq, .int u.2.1, .int pp, .int ct, .int sv])), (vw, .inl (cI, LW, .inl u.2.2.1)), (ve, .inl (cI, LW, .inl u.2.2.2.1)), (vq, .inl (cI, LW, .inl u.2.2.2.2.1)), (vo, .inl (cI, LW, .inl u.2.2.2.2.2)), (lk, .inr (2, [.ref kh, .ref ks, .ref kn, .int us])), (kh, .inl (cI, LH, .inl he)), (ks, .inl (cI, LS, .inl sr)), (kn, .inl (cI, LS, .inl ne))]) (fun u => [(1, .int u.1), (0, .ref so)]) (fun n u => (0 ≤ u.1.toInt ∧ u.1.toInt ≤ (LW : Int) ∧ (LW : Int) < u.1.toInt + n) ∧ (0 ≤ u.2.1.toInt ∧ u.2.1.toInt ≤ (LW : Int)) ∧ kt_r u.2.2.1 LW (-1) 2 ∧ kt_r u.2.2.2.2.1 LW 0 ((LQ : Int) - 1)) (fun u h => by omega) (fun n_2 ih_2 u hI H locs hP hD hS ls hl => ?_) (LW + 1) ((0 : Int32), qd, wo, de, qu, op) (by show (0 ≤ (0 : Int32).toInt ∧ (0 : Int32).toInt ≤ (LW : Int) ∧ (LW : Int) < (0 : Int32).toInt + (LW + 1)) ∧ (0 ≤ qd.toInt ∧ qd.toInt ≤ (LW : Int)) ∧ kt_r wo LW (-1) 2 ∧ kt_r qu LW 0 ((LQ : Int) - 1); exact ⟨⟨by decide, by rw [kt_c0]; omega, by rw [kt_c0]; omega⟩, hqd, hwo, hqu⟩) hP hD hS (lv_sub hl [0, 1] rfl)
  obtain ⟨i, q1, g1, g2, g3, g4⟩ := u
  have hP : va_P D vwCl [(so, .inr (7, [.ref ru, .ref tr, .ref lk, .ref vp, .ref vd, .ref vt, .ref vg, .ref vw, .ref ve, .ref vo, .ref vq, .int q1, .int pp, .int ct, .int sv])), (vw, .inl (cI, LW, .inl g1)), (ve, .inl (cI, LW, .inl g2)), (vq, .inl (cI, LW, .inl g3)), (vo, .inl (cI, LW, .inl g4)), (lk, .inr (2, [.ref kh, .ref ks, .ref kn, .int us])), (kh, .inl (cI, LH, .inl he)), (ks, .inl (cI, LS, .inl sr)), (kn, .inl (cI, LS, .inl ne))] H := hP
  have hD : va_D A [(so, .inr (7, [.ref ru, .ref tr, .ref lk, .ref vp, .ref vd, .ref vt, .ref vg, .ref vw, .ref ve, .ref vo, .ref vq, .int q1, .int pp, .int ct, .int sv])), (vw, .inl (cI, LW, .inl g1)), (ve, .inl (cI, LW, .inl g2)), (vq, .inl (cI, LW, .inl g3)), (vo, .inl (cI, LW, .inl g4)), (lk, .inr (2, [.ref kh, .ref ks, .ref kn, .int us])), (kh, .inl (cI, LH, .inl he)), (ks, .inl (cI, LS, .inl sr)), (kn, .inl (cI, LS, .inl ne))] := hD
  have hl : lv_has ls 5 [(1, .int i), (0, .ref so)] := hl
  have hI : (0 ≤ i.toInt ∧ i.toInt ≤ (LW : Int) ∧ (LW : Int) < i.toInt + (n_2 + 1)) ∧ (0 ≤ q1.toInt ∧ q1.toInt ≤ (LW : Int)) ∧ kt_r g1 LW (-1) 2 ∧ kt_r g3 LW 0 ((LQ : Int) - 1) := hI
  obtain ⟨hib, hqd, hwo, hqu⟩ := hI
  refine lv_iload_n hx hb dX7_spread_2 rfl (lv_at hl 0 rfl) ?_
  refine lv_aload_n hx hb dX7_spread_3 rfl (lv_at hl 1 rfl) ?_
  refine va_get (D := D) (ci := 7) (C := RX7) (T := TX7) (N := 15) hx hb hts iw_X7_spread_X7 hown hK hP 0 rfl rfl 11 (by decide) (hts (.fieldLink RX7 100 "KingTable$Solver" "queued" "I") (List.mem_cons_of_mem _ (List.mem_append_left _ (List.mem_append_left _ (List.Mem.head _))))) (fun _ h9 => h9) rfl dX7_spread_4 ?_
  refine lv_icmp_ge (tgt := 105) hx hb dX7_spread_7 (by decide) (fun c_7 => ?_) (fun c_7 => ?_)
  · have d_7 := c_7
    simp only [kt_lt, kt_le, kt_eq, kt_c0, kt_c1, kt_c2, kt_c3, kt_c4, kt_c8, kt_c9, kt_cm1, kt_c81, kt_c40, kt_c7, kt_c5, kt_c6, kt_c512, kt_c10, kt_c10000] at d_7
    exact kt_rv (q1, g1, g2, g3, g4) hx hb hr hlk hS dX7_spread_105 hP hD (by show (0 ≤ q1.toInt ∧ q1.toInt ≤ (LW : Int)) ∧ kt_r g1 LW (-1) 2 ∧ kt_r g3 LW 0 ((LQ : Int) - 1); exact ⟨hqd, hwo, hqu⟩)
  · have d_7 := c_7
    simp only [kt_lt, kt_le, kt_eq, kt_c0, kt_c1, kt_c2, kt_c3, kt_c4, kt_c8, kt_c9, kt_cm1, kt_c81, kt_c40, kt_c7, kt_c5, kt_c6, kt_c512, kt_c10, kt_c10000] at d_7
    refine lv_iload_n hx hb dX7_spread_10 rfl (lv_at hl 0 rfl) ?_
    refine lv_aload_n hx hb dX7_spread_11 rfl (lv_at hl 1 rfl) ?_
    refine va_get (D := D) (ci := 7) (C := RX7) (T := TX7) (N := 15) hx hb hts iw_X7_spread_X7 hown hK hP 0 rfl rfl 10 (by decide) (hts (.fieldLink RX7 47 "KingTable$Solver" "queue" "[I") (List.mem_cons_of_mem _ (List.mem_append_left _ (List.mem_append_left _ (List.mem_cons_of_mem _ (List.Mem.head _)))))) (fun _ h9 => h9) rfl dX7_spread_12 ?_
    refine va_alen hx hb hK hP 3 0 rfl rfl (v := nI LW) rfl dX7_spread_15 ?_
    refine lv_icmp_ge (tgt := 105) hx hb dX7_spread_16 (by decide) (fun c_16 => ?_) (fun c_16 => ?_)
    · have d_16 := c_16
      simp only [kt_lt, kt_le, kt_eq, kt_c0, kt_c1, kt_c2, kt_c3, kt_c4, kt_c8, kt_c9, kt_cm1, kt_c81, kt_c40, kt_c7, kt_c5, kt_c6, kt_c512, kt_c10, kt_c10000] at d_16
      exact kt_rv (q1, g1, g2, g3, g4) hx hb hr hlk hS dX7_spread_105 hP hD (by show (0 ≤ q1.toInt ∧ q1.toInt ≤ (LW : Int)) ∧ kt_r g1 LW (-1) 2 ∧ kt_r g3 LW 0 ((LQ : Int) - 1); exact ⟨hqd, hwo, hqu⟩)
    · have d_16 := c_16
      simp only [kt_lt, kt_le, kt_eq, kt_c0, kt_c1, kt_c2, kt_c3, kt_c4, kt_c8, kt_c9, kt_cm1, kt_c81, kt_c40, kt_c7, kt_c5, kt_c6, kt_c512, kt_c10, kt_c10000] at d_16
      refine lv_aload_n hx hb dX7_spread_19 rfl (lv_at hl 1 rfl) ?_
      refine va_get (D := D) (ci := 7) (C := RX7) (T := TX7) (N := 15) hx hb hts iw_X7_spread_X7 hown hK hP 0 rfl rfl 10 (by decide) (hts (.fieldLink RX7 47 "KingTable$Solver" "queue" "[I") (List.mem_cons_of_mem _ (List.mem_append_left _ (List.mem_append_left _ (List.mem_cons_of_mem _ (List.Mem.head _)))))) (fun _ h9 => h9) rfl dX7_spread_20 ?_
      refine lv_iload_n hx hb dX7_spread_23 rfl (lv_at hl 0 rfl) ?_
      have hi_1 : vp_in i LW := by exact kt_in (by omega) (by omega)
      refine va_iald hx hb hK hP 3 0 rfl rfl hi_1 dX7_spread_24 ?_
      refine lv_topi (fun a_24 ea_24 => ?_)
      have ra_24 := hqu.get hi_1
      rw [← ea_24] at ra_24
      refine lv_istore_n (lv' := [(2, .int a_24), (1, .int i), (0, .ref so)]) hx hb dX7_spread_25 rfl hl (by decide) rfl (fun ls hl => ?_)
      refine lv_aload_n hx hb dX7_spread_26 rfl (lv_at hl 2 rfl) ?_
      refine va_get (D := D) (ci := 7) (C := RX7) (T := TX7) (N := 15) hx hb hts iw_X7_spread_X7 hown hK hP 0 rfl rfl 2 (by decide) (hts (.fieldLink RX7 21 "KingTable$Solver" "links" "LKingTable$Links;") (List.mem_cons_of_mem _ (List.mem_append_left _ (List.mem_append_left _ (List.mem_cons_of_mem _ (List.mem_cons_of_mem _ (List.Mem.head _))))))) (fun _ h9 => h9) rfl dX7_spread_27 ?_
      refine va_getN (D := D) (ci := 2) (C := RX2) (T := TX2) (N := 4) hx hb hts iw_X7_spread_X2 hown hK hP 5 rfl rfl 0 (by decide) (va_Nw.use (w := .fieldLinkNest RX7 180 "KingTable$Links" "heads" "[I" "KingTable") rfl (hN _ (by decide +kernel))) (fun _ h9 => h9) rfl dX7_spread_30 ?_
      refine lv_iload_n hx hb dX7_spread_33 rfl (lv_at hl 0 rfl) ?_
      have hi_2 : vp_in a_24 LH := by exact kt_in (by omega) (by omega)
      refine va_iald hx hb hK hP 6 0 rfl rfl hi_2 dX7_spread_34 ?_
      refine lv_topi (fun a_34 ea_34 => ?_)
      have ra_34 := hhe.get hi_2
      rw [← ea_34] at ra_34
      refine lv_istore_n (lv' := [(3, .int a_34), (2, .int a_24), (1, .int i), (0, .ref so)]) hx hb dX7_spread_35 rfl hl (by decide) rfl (fun ls hl => ?_)
      refine lv_iconst (v := 0) hx hb dX7_spread_36 (by decide) ?_
      refine lv_istore (lv' := [(4, .int 0), (3, .int a_34), (2, .int a_24), (1, .int i), (0, .ref so)]) hx hb dX7_spread_37 hl (by decide) rfl (fun ls hl => ?_)
      refine kt_loop (σ := Int32 × Int32 × Int32 × (Nat → Int32) × (Nat → Int32) × (Nat → Int32) × (Nat → Int32)) 39 5 (fun u => [(so, .inr (7, [.ref ru, .ref tr, .ref lk, .ref vp, .ref vd, .ref vt, .ref vg, .ref vw, .ref ve, .ref vo, .ref vq, .int u.2.2.1, .int pp, .int ct, .int sv])), (vw, .inl (cI, LW, .inl u.2.2.2.1)), (ve, .inl (cI, LW, .inl u.2.2.2.2.1)), (vq, .inl (cI, LW, .inl u.2.2.2.2.2.1)), (vo, .inl (cI, LW, .inl u.2.2.2.2.2.2)), (lk, .inr (2, [.ref kh, .ref ks, .ref kn, .int us])), (kh, .inl (cI, LH, .inl he)), (ks, .inl (cI, LS, .inl sr)), (kn, .inl (cI, LS, .inl ne))]) (fun u => [(4, .int u.1), (3, .int u.2.1), (2, .int a_24), (1, .int i), (0, .ref so)]) (fun n u => (0 ≤ u.1.toInt ∧ u.1.toInt ≤ (LS : Int) ∧ (LS : Int) < u.1.toInt + n) ∧ (-1 ≤ u.2.1.toInt ∧ u.2.1.toInt < (LS : Int)) ∧ (0 ≤ u.2.2.1.toInt ∧ u.2.2.1.toInt ≤ (LW : Int)) ∧ kt_r u.2.2.2.1 LW (-1) 2 ∧ kt_r u.2.2.2.2.2.1 LW 0 ((LQ : Int) - 1)) (fun u h => by omega) (fun n_39 ih_39 u hI H locs hP hD hS ls hl => ?_) (LS + 1) ((0 : Int32), a_34, q1, g1, g2, g3, g4) (by show (0 ≤ (0 : Int32).toInt ∧ (0 : Int32).toInt ≤ (LS : Int) ∧ (LS : Int) < (0 : Int32).toInt + (LS + 1)) ∧ (-1 ≤ a_34.toInt ∧ a_34.toInt < (LS : Int)) ∧ (0 ≤ q1.toInt ∧ q1.toInt ≤ (LW : Int)) ∧ kt_r g1 LW (-1) 2 ∧ kt_r g3 LW 0 ((LQ : Int) - 1); exact ⟨⟨by decide, by rw [kt_c0]; omega, by rw [kt_c0]; omega⟩, by omega, hqd, hwo, hqu⟩) hP hD hS (lv_sub hl [0, 1, 2, 3, 4] rfl)
      obtain ⟨m_, ee, q2, h1, h2, h3, h4⟩ := u
      have hP : va_P D vwCl [(so, .inr (7, [.ref ru, .ref tr, .ref lk, .ref vp, .ref vd, .ref vt, .ref vg, .ref vw, .ref ve, .ref vo, .ref vq, .int q2, .int pp, .int ct, .int sv])), (vw, .inl (cI, LW, .inl h1)), (ve, .inl (cI, LW, .inl h2)), (vq, .inl (cI, LW, .inl h3)), (vo, .inl (cI, LW, .inl h4)), (lk, .inr (2, [.ref kh, .ref ks, .ref kn, .int us])), (kh, .inl (cI, LH, .inl he)), (ks, .inl (cI, LS, .inl sr)), (kn, .inl (cI, LS, .inl ne))] H := hP
      have hD : va_D A [(so, .inr (7, [.ref ru, .ref tr, .ref lk, .ref vp, .ref vd, .ref vt, .ref vg, .ref vw, .ref ve, .ref vo, .ref vq, .int q2, .int pp, .int ct, .int sv])), (vw, .inl (cI, LW, .inl h1)), (ve, .inl (cI, LW, .inl h2)), (vq, .inl (cI, LW, .inl h3)), (vo, .inl (cI, LW, .inl h4)), (lk, .inr (2, [.ref kh, .ref ks, .ref kn, .int us])), (kh, .inl (cI, LH, .inl he)), (ks, .inl (cI, LS, .inl sr)), (kn, .inl (cI, LS, .inl ne))] := hD
      have hl : lv_has ls 5 [(4, .int m_), (3, .int ee), (2, .int a_24), (1, .int i), (0, .ref so)] := hl
      have hI : (0 ≤ m_.toInt ∧ m_.toInt ≤ (LS : Int) ∧ (LS : Int) < m_.toInt + (n_39 + 1)) ∧ (-1 ≤ ee.toInt ∧ ee.toInt < (LS : Int)) ∧ (0 ≤ q2.toInt ∧ q2.toInt ≤ (LW : Int)) ∧ kt_r h1 LW (-1) 2 ∧ kt_r h3 LW 0 ((LQ : Int) - 1) := hI
      obtain ⟨hmb, hee, hqd, hwo, hqu⟩ := hI
      refine lv_iload hx hb dX7_spread_39 (lv_at hl 0 rfl) ?_
      refine lv_aload_n hx hb dX7_spread_41 rfl (lv_at hl 4 rfl) ?_
      refine va_get (D := D) (ci := 7) (C := RX7) (T := TX7) (N := 15) hx hb hts iw_X7_spread_X7 hown hK hP 0 rfl rfl 2 (by decide) (hts (.fieldLink RX7 21 "KingTable$Solver" "links" "LKingTable$Links;") (List.mem_cons_of_mem _ (List.mem_append_left _ (List.mem_append_left _ (List.mem_cons_of_mem _ (List.mem_cons_of_mem _ (List.Mem.head _))))))) (fun _ h9 => h9) rfl dX7_spread_42 ?_
      refine va_getN (D := D) (ci := 2) (C := RX2) (T := TX2) (N := 4) hx hb hts iw_X7_spread_X2 hown hK hP 5 rfl rfl 3 (by decide) (va_Nw.use (w := .fieldLinkNest RX7 183 "KingTable$Links" "used" "I" "KingTable") rfl (hN _ (by decide +kernel))) (fun _ h9 => h9) rfl dX7_spread_45 ?_
      refine lv_icmp_ge (tgt := 99) hx hb dX7_spread_48 (by decide) (fun c_48 => ?_) (fun c_48 => ?_)
      · have d_48 := c_48
        simp only [kt_lt, kt_le, kt_eq, kt_c0, kt_c1, kt_c2, kt_c3, kt_c4, kt_c8, kt_c9, kt_cm1, kt_c81, kt_c40, kt_c7, kt_c5, kt_c6, kt_c512, kt_c10, kt_c10000] at d_48
        obtain ⟨t_99, et_99⟩ : ∃ y : Int32, y = i + 1 := ⟨_, rfl⟩
        obtain ⟨k_99, hk_99, hm_99, hM_99⟩ := kt_addk et_99
        try simp only [kt_c0, kt_c1, kt_c2, kt_c3, kt_c4, kt_c8, kt_c9, kt_cm1, kt_c81, kt_c40, kt_c7, kt_c5, kt_c6, kt_c512, kt_c10, kt_c10000] at hk_99
        refine lv_iinc (v := t_99) (lv' := [(1, .int t_99), (4, .int m_), (3, .int ee), (2, .int a_24), (0, .ref so)]) hx hb dX7_spread_99 hl (k := 3) rfl (by rw [et_99]; rfl) (by decide) rfl (fun ls hl => ?_)
        refine lv_goto (tgt := 2) hx hb dX7_spread_102 (by decide) ?_
        exact ih_2 (t_99, q2, h1, h2, h3, h4) (by show (0 ≤ t_99.toInt ∧ t_99.toInt ≤ (LW : Int) ∧ (LW : Int) < t_99.toInt + n_2) ∧ (0 ≤ q2.toInt ∧ q2.toInt ≤ (LW : Int)) ∧ kt_r h1 LW (-1) 2 ∧ kt_r h3 LW 0 ((LQ : Int) - 1); exact ⟨by omega, hqd, hwo, hqu⟩) H _ hP hD hS ls (lv_sub hl [0, 4] rfl)
      · have d_48 := c_48
        simp only [kt_lt, kt_le, kt_eq, kt_c0, kt_c1, kt_c2, kt_c3, kt_c4, kt_c8, kt_c9, kt_cm1, kt_c81, kt_c40, kt_c7, kt_c5, kt_c6, kt_c512, kt_c10, kt_c10000] at d_48
        refine lv_iload_n hx hb dX7_spread_51 rfl (lv_at hl 1 rfl) ?_
        refine lv_iconst (v := (-1)) hx hb dX7_spread_52 (by decide) ?_
        refine lv_icmp_eq (tgt := 99) hx hb dX7_spread_53 (by decide) (fun c_53 => ?_) (fun c_53 => ?_)
        · have d_53 := c_53
          simp only [kt_lt, kt_le, kt_eq, kt_c0, kt_c1, kt_c2, kt_c3, kt_c4, kt_c8, kt_c9, kt_cm1, kt_c81, kt_c40, kt_c7, kt_c5, kt_c6, kt_c512, kt_c10, kt_c10000] at d_53
          obtain ⟨t_99, et_99⟩ : ∃ y : Int32, y = i + 1 := ⟨_, rfl⟩
          obtain ⟨k_99, hk_99, hm_99, hM_99⟩ := kt_addk et_99
          try simp only [kt_c0, kt_c1, kt_c2, kt_c3, kt_c4, kt_c8, kt_c9, kt_cm1, kt_c81, kt_c40, kt_c7, kt_c5, kt_c6, kt_c512, kt_c10, kt_c10000] at hk_99
          refine lv_iinc (v := t_99) (lv' := [(1, .int t_99), (4, .int m_), (3, .int ee), (2, .int a_24), (0, .ref so)]) hx hb dX7_spread_99 hl (k := 3) rfl (by rw [et_99]; rfl) (by decide) rfl (fun ls hl => ?_)
          refine lv_goto (tgt := 2) hx hb dX7_spread_102 (by decide) ?_
          exact ih_2 (t_99, q2, h1, h2, h3, h4) (by show (0 ≤ t_99.toInt ∧ t_99.toInt ≤ (LW : Int) ∧ (LW : Int) < t_99.toInt + n_2) ∧ (0 ≤ q2.toInt ∧ q2.toInt ≤ (LW : Int)) ∧ kt_r h1 LW (-1) 2 ∧ kt_r h3 LW 0 ((LQ : Int) - 1); exact ⟨by omega, hqd, hwo, hqu⟩) H _ hP hD hS ls (lv_sub hl [0, 4] rfl)
        · have d_53 := c_53
          simp only [kt_lt, kt_le, kt_eq, kt_c0, kt_c1, kt_c2, kt_c3, kt_c4, kt_c8, kt_c9, kt_cm1, kt_c81, kt_c40, kt_c7, kt_c5, kt_c6, kt_c512, kt_c10, kt_c10000] at d_53
          refine lv_aload_n hx hb dX7_spread_56 rfl (lv_at hl 4 rfl) ?_
          refine lv_aload_n hx hb dX7_spread_57 rfl (lv_at hl 4 rfl) ?_
          refine va_get (D := D) (ci := 7) (C := RX7) (T := TX7) (N := 15) hx hb hts iw_X7_spread_X7 hown hK hP 0 rfl rfl 2 (by decide) (hts (.fieldLink RX7 21 "KingTable$Solver" "links" "LKingTable$Links;") (List.mem_cons_of_mem _ (List.mem_append_left _ (List.mem_append_left _ (List.mem_cons_of_mem _ (List.mem_cons_of_mem _ (List.Mem.head _))))))) (fun _ h9 => h9) rfl dX7_spread_58 ?_
          refine va_getN (D := D) (ci := 2) (C := RX2) (T := TX2) (N := 4) hx hb hts iw_X7_spread_X2 hown hK hP 5 rfl rfl 1 (by decide) (va_Nw.use (w := .fieldLinkNest RX7 186 "KingTable$Links" "sources" "[I" "KingTable") rfl (hN _ (by decide +kernel))) (fun _ h9 => h9) rfl dX7_spread_61 ?_
          refine lv_iload_n hx hb dX7_spread_64 rfl (lv_at hl 1 rfl) ?_
          have hi_3 : vp_in ee LS := by exact kt_in (by omega) (by omega)
          refine va_iald hx hb hK hP 7 0 rfl rfl hi_3 dX7_spread_65 ?_
          refine lv_topi (fun a_65 ea_65 => ?_)
          have ra_65 := hsr.get hi_3
          rw [← ea_65] at ra_65
          refine lv_aload_n hx hb dX7_spread_66 rfl (lv_at hl 4 rfl) ?_
          refine va_get (D := D) (ci := 7) (C := RX7) (T := TX7) (N := 15) hx hb hts iw_X7_spread_X7 hown hK hP 0 rfl rfl 7 (by decide) (hts (.fieldLink RX7 38 "KingTable$Solver" "worths" "[I") (List.mem_cons_of_mem _ (List.mem_append_left _ (List.mem_append_left _ (List.mem_cons_of_mem _ (List.mem_cons_of_mem _ (List.mem_cons_of_mem _ (List.Mem.head _)))))))) (fun _ h9 => h9) rfl dX7_spread_67 ?_
          refine lv_iload_n hx hb dX7_spread_70 rfl (lv_at hl 2 rfl) ?_
          have hi_4 : vp_in a_24 LW := by exact kt_in (by omega) (by omega)
          refine va_iald hx hb hK hP 1 0 rfl rfl hi_4 dX7_spread_71 ?_
          refine lv_topi (fun a_71 ea_71 => ?_)
          have ra_71 := hwo.get hi_4
          rw [← ea_71] at ra_71
          refine lv_aload_n hx hb dX7_spread_72 rfl (lv_at hl 4 rfl) ?_
          refine va_get (D := D) (ci := 7) (C := RX7) (T := TX7) (N := 15) hx hb hts iw_X7_spread_X7 hown hK hP 0 rfl rfl 8 (by decide) (hts (.fieldLink RX7 41 "KingTable$Solver" "deeps" "[I") (List.mem_cons_of_mem _ (List.mem_append_left _ (List.mem_append_left _ (List.mem_cons_of_mem _ (List.mem_cons_of_mem _ (List.mem_cons_of_mem _ (List.mem_cons_of_mem _ (List.Mem.head _))))))))) (fun _ h9 => h9) rfl dX7_spread_73 ?_
          refine lv_iload_n hx hb dX7_spread_76 rfl (lv_at hl 2 rfl) ?_
          have hi_5 : vp_in a_24 LW := by exact kt_in (by omega) (by omega)
          refine va_iald hx hb hK hP 2 0 rfl rfl hi_5 dX7_spread_77 ?_
          refine lv_topi (fun a_77 ea_77 => ?_)
          refine lv_iconst (v := 1) hx hb dX7_spread_78 (by decide) ?_
          refine lv_iadd hx hb dX7_spread_79 ?_
          refine lv_topi (fun t_79 et_79 => ?_)
          obtain ⟨k_79, hk_79, hm_79, hM_79⟩ := kt_addk et_79
          try simp only [kt_c0, kt_c1, kt_c2, kt_c3, kt_c4, kt_c8, kt_c9, kt_cm1, kt_c81, kt_c40, kt_c7, kt_c5, kt_c6, kt_c512, kt_c10, kt_c10000] at hk_79
          refine kt_bv (wc := [(so, .inr (7, [.ref ru, .ref tr, .ref lk, .ref vp, .ref vd, .ref vt, .ref vg, .ref vw, .ref ve, .ref vo, .ref vq, .int q2, .int pp, .int ct, .int sv])), (vw, .inl (cI, LW, .inl h1)), (ve, .inl (cI, LW, .inl h2)), (vq, .inl (cI, LW, .inl h3)), (vo, .inl (cI, LW, .inl h4))]) (wr := [(lk, .inr (2, [.ref kh, .ref ks, .ref kn, .int us])), (kh, .inl (cI, LH, .inl he)), (ks, .inl (cI, LS, .inl sr)), (kn, .inl (cI, LS, .inl ne))]) [0, 1, 2, 3, 4] [5, 6, 7, 8] hP hD hS hA rfl rfl (by decide) (by decide) (by decide) (fun hPc hDc => va_runV (As := [.int a_65, .int a_71, .int t_79]) (rest := []) ⟨hx, hb, hml, hown, hts⟩ (c_X7_inform l D cI cZ cB H.size so ru tr lk vp vd vt vg vw ve vo vq q2 pp ct sv LW LH LS LQ h1 h2 h3 h4 a_65 a_71 t_79 (by first | assumption | omega | rfl | decide) (by first | assumption | omega | rfl | decide) (by first | assumption | omega | rfl | decide) (by first | assumption | omega | rfl | decide) (by first | assumption | omega | rfl | decide) (by first | assumption | omega | rfl | decide) (by first | assumption | omega | rfl | decide) (by first | assumption | omega | rfl | decide) (by first | assumption | omega | rfl | decide)) (cwV 3 hts gX7_spread_X7_inform rfl rfl rfl (by decide +kernel) ⟨Nat.le_of_ble_eq_true rfl, Nat.le_of_ble_eq_true rfl⟩) (kt_preV hN hK hPc hDc 0 (ci := 7) (q := (RX7, TX7, 15)) rfl rfl) rfl rfl hl.1 rfl (lv_room (Nat.le_of_ble_eq_true rfl)) dX7_spread_80 ⟨Nat.le_of_ble_eq_true rfl, Nat.le_of_ble_eq_true rfl⟩) (fun u_ H locs hw_80 hP hD hS => ?_)
          obtain ⟨qd2_80, wo2_80, de2_80, qu2_80, op2_80⟩ := u_
          have hP : va_P D vwCl [(so, .inr (7, [.ref ru, .ref tr, .ref lk, .ref vp, .ref vd, .ref vt, .ref vg, .ref vw, .ref ve, .ref vo, .ref vq, .int qd2_80, .int pp, .int ct, .int sv])), (vw, .inl (cI, LW, .inl wo2_80)), (ve, .inl (cI, LW, .inl de2_80)), (vq, .inl (cI, LW, .inl qu2_80)), (vo, .inl (cI, LW, .inl op2_80)), (lk, .inr (2, [.ref kh, .ref ks, .ref kn, .int us])), (kh, .inl (cI, LH, .inl he)), (ks, .inl (cI, LS, .inl sr)), (kn, .inl (cI, LS, .inl ne))] H := hP.sub [4, 5, 6, 7, 8, 0, 1, 2, 3] rfl
          have hD : va_D A [(so, .inr (7, [.ref ru, .ref tr, .ref lk, .ref vp, .ref vd, .ref vt, .ref vg, .ref vw, .ref ve, .ref vo, .ref vq, .int qd2_80, .int pp, .int ct, .int sv])), (vw, .inl (cI, LW, .inl wo2_80)), (ve, .inl (cI, LW, .inl de2_80)), (vq, .inl (cI, LW, .inl qu2_80)), (vo, .inl (cI, LW, .inl op2_80)), (lk, .inr (2, [.ref kh, .ref ks, .ref kn, .int us])), (kh, .inl (cI, LH, .inl he)), (ks, .inl (cI, LS, .inl sr)), (kn, .inl (cI, LS, .inl ne))] := hD.sub [4, 5, 6, 7, 8, 0, 1, 2, 3] (by decide) rfl
          try dsimp only at hw_80
          obtain ⟨hqd, hwo, hqu⟩ := hw_80
          refine lv_aload_n hx hb dX7_spread_83 rfl (lv_at hl 4 rfl) ?_
          refine va_get (D := D) (ci := 7) (C := RX7) (T := TX7) (N := 15) hx hb hts iw_X7_spread_X7 hown hK hP 0 rfl rfl 2 (by decide) (hts (.fieldLink RX7 21 "KingTable$Solver" "links" "LKingTable$Links;") (List.mem_cons_of_mem _ (List.mem_append_left _ (List.mem_append_left _ (List.mem_cons_of_mem _ (List.mem_cons_of_mem _ (List.Mem.head _))))))) (fun _ h9 => h9) rfl dX7_spread_84 ?_
          refine va_getN (D := D) (ci := 2) (C := RX2) (T := TX2) (N := 4) hx hb hts iw_X7_spread_X2 hown hK hP 5 rfl rfl 2 (by decide) (va_Nw.use (w := .fieldLinkNest RX7 192 "KingTable$Links" "nexts" "[I" "KingTable") rfl (hN _ (by decide +kernel))) (fun _ h9 => h9) rfl dX7_spread_87 ?_
          refine lv_iload_n hx hb dX7_spread_90 rfl (lv_at hl 1 rfl) ?_
          have hi_6 : vp_in ee LS := by exact kt_in (by omega) (by omega)
          refine va_iald hx hb hK hP 8 0 rfl rfl hi_6 dX7_spread_91 ?_
          refine lv_topi (fun a_91 ea_91 => ?_)
          have ra_91 := hne.get hi_6
          rw [← ea_91] at ra_91
          refine lv_istore_n (lv' := [(3, .int a_91), (4, .int m_), (2, .int a_24), (1, .int i), (0, .ref so)]) hx hb dX7_spread_92 rfl hl (by decide) rfl (fun ls hl => ?_)
          obtain ⟨t_93, et_93⟩ : ∃ y : Int32, y = m_ + 1 := ⟨_, rfl⟩
          obtain ⟨k_93, hk_93, hm_93, hM_93⟩ := kt_addk et_93
          try simp only [kt_c0, kt_c1, kt_c2, kt_c3, kt_c4, kt_c8, kt_c9, kt_cm1, kt_c81, kt_c40, kt_c7, kt_c5, kt_c6, kt_c512, kt_c10, kt_c10000] at hk_93
          refine lv_iinc (v := t_93) (lv' := [(4, .int t_93), (3, .int a_91), (2, .int a_24), (1, .int i), (0, .ref so)]) hx hb dX7_spread_93 hl (k := 1) rfl (by rw [et_93]; rfl) (by decide) rfl (fun ls hl => ?_)
          refine lv_goto (tgt := 39) hx hb dX7_spread_96 (by decide) ?_
          exact ih_39 (t_93, a_91, qd2_80, wo2_80, de2_80, qu2_80, op2_80) (by show (0 ≤ t_93.toInt ∧ t_93.toInt ≤ (LS : Int) ∧ (LS : Int) < t_93.toInt + n_39) ∧ (-1 ≤ a_91.toInt ∧ a_91.toInt < (LS : Int)) ∧ (0 ≤ qd2_80.toInt ∧ qd2_80.toInt ≤ (LW : Int)) ∧ kt_r wo2_80 LW (-1) 2 ∧ kt_r qu2_80 LW 0 ((LQ : Int) - 1); exact ⟨by omega, by omega, hqd, hwo, hqu⟩) H _ hP hD hS ls (lv_sub hl [0, 1, 2, 3, 4] rfl)

theorem iw_X7_tallyUp_X7 : ∀ w ∈ wsX70, w ∈ wsX7_tallyUp := fun _ h => kt_wp_X7_tallyUp__X70 h
set_option maxHeartbeats 4000000 in
set_option maxRecDepth 100000 in
theorem c_X7_tallyUp (l : Launch) (D : va_G) (cI cZ cB : ClassId) (sz : Nat) (so : Nat) (ru : Nat) (tr : Nat) (lk : Nat) (vp : Nat) (vd : Nat) (vt : Nat) (vg : Nat) (vw : Nat) (ve : Nat) (vo : Nat) (vq : Nat) (qd : Int32) (pp : Int32) (ct : Int32) (sv : Int32) (LW : Nat) (LH : Nat) (LS : Nat) (LQ : Nat) (ta : Nat → Int32) (ga : Nat → Int32) (wo : Nat → Int32) (de : Nat → Int32) (hlw : LW ≤ 10000) (hlh : LH ≤ 10000) (hls : LS ≤ 4000000) (hlq : LQ ≤ LW ∧ LQ ≤ LH) (hwo : kt_r wo LW (-1) 2) (hpp : 0 ≤ pp.toInt ∧ 2 * pp.toInt ≤ (LQ : Int)) : kt_Mv l yX7_tallyUp wsX7_tallyUp { frames := 1, cells := 0, slots := 0, locals := 23 } D (kt_ty cI cZ cB) [.ref so] sz [(so, .inr (7, [.ref ru, .ref tr, .ref lk, .ref vp, .ref vd, .ref vt, .ref vg, .ref vw, .ref ve, .ref vo, .ref vq, .int qd, .int pp, .int ct, .int sv])), (vt, .inl (cI, 6, .inl ta)), (vg, .inl (cI, 2, .inl ga)), (vw, .inl (cI, LW, .inl wo)), (ve, .inl (cI, LW, .inl de))] (fun (u : (Nat → Int32) × (Nat → Int32)) => True) (fun (u : (Nat → Int32) × (Nat → Int32)) => [(so, .inr (7, [.ref ru, .ref tr, .ref lk, .ref vp, .ref vd, .ref vt, .ref vg, .ref vw, .ref ve, .ref vo, .ref vq, .int qd, .int pp, .int ct, .int sv])), (vt, .inl (cI, 6, .inl u.1)), (vg, .inl (cI, 2, .inl u.2)), (vw, .inl (cI, LW, .inl wo)), (ve, .inl (cI, LW, .inl de))]) 0 0 := by
  refine kt_Mv.of (cc := cX7_tallyUp) (maxL := 3) (ret := none) (by decide) rfl (Nat.le_of_ble_eq_true rfl) ?_
  intro p e s m below meth c A ls H hAt hP hD hS hl
  obtain ⟨hx, hb, hr, hml, hown, hts, hN, hK, hlk, hnm, hA⟩ := hAt
  have hl : lv_has ls 3 [(0, .ref so)] := hl
  have hown : s.vm.findClass RX7 = some m.cls := hown
  refine lv_aload_n hx hb dX7_tallyUp_0 rfl (lv_at hl 0 rfl) ?_
  refine va_get (D := D) (ci := 7) (C := RX7) (T := TX7) (N := 15) hx hb hts iw_X7_tallyUp_X7 hown hK hP 0 rfl rfl 5 (by decide) (hts (.fieldLink RX7 32 "KingTable$Solver" "tallies" "[I") (List.mem_cons_of_mem _ (List.mem_append_left _ (List.Mem.head _)))) (fun _ h9 => h9) rfl dX7_tallyUp_1 ?_
  refine lv_iconst (v := 0) hx hb dX7_tallyUp_4 (by decide) ?_
  refine kt_bv (wc := [(vt, .inl (cI, 6, .inl ta))]) (wr := [(so, .inr (7, [.ref ru, .ref tr, .ref lk, .ref vp, .ref vd, .ref vt, .ref vg, .ref vw, .ref ve, .ref vo, .ref vq, .int qd, .int pp, .int ct, .int sv])), (vg, .inl (cI, 2, .inl ga)), (vw, .inl (cI, LW, .inl wo)), (ve, .inl (cI, LW, .inl de))]) [1] [0, 2, 3, 4] hP hD hS hA rfl rfl (by decide) (by decide) (by decide) (fun hPc hDc => va_runS (As := [.ref vt, .int 0]) (rest := []) ⟨hx, hb, hml, hown, hts⟩ (c_fill l D cI cZ cB H.size vt 6 ta 0 (by decide)) (va_cwS 2 hts gX7_tallyUp_J7_fill_53178 rfl rfl rfl (by decide +kernel) ⟨Nat.le_of_ble_eq_true rfl, Nat.le_of_ble_eq_true rfl⟩) (kt_preS hN hK hPc hDc) rfl rfl hl.1 rfl (lv_room (Nat.le_of_ble_eq_true rfl)) dX7_tallyUp_5 ⟨Nat.le_of_ble_eq_true rfl, Nat.le_of_ble_eq_true rfl⟩) (fun u_ H locs hw_5 hP hD hS => ?_)
  have hP : va_P D vwCl [(so, .inr (7, [.ref ru, .ref tr, .ref lk, .ref vp, .ref vd, .ref vt, .ref vg, .ref vw, .ref ve, .ref vo, .ref vq, .int qd, .int pp, .int ct, .int sv])), (vt, .inl (cI, 6, .inl (fun _ => 0))), (vg, .inl (cI, 2, .inl ga)), (vw, .inl (cI, LW, .inl wo)), (ve, .inl (cI, LW, .inl de))] H := hP.sub [0, 4, 1, 2, 3] rfl
  have hD : va_D A [(so, .inr (7, [.ref ru, .ref tr, .ref lk, .ref vp, .ref vd, .ref vt, .ref vg, .ref vw, .ref ve, .ref vo, .ref vq, .int qd, .int pp, .int ct, .int sv])), (vt, .inl (cI, 6, .inl (fun _ => 0))), (vg, .inl (cI, 2, .inl ga)), (vw, .inl (cI, LW, .inl wo)), (ve, .inl (cI, LW, .inl de))] := hD.sub [0, 4, 1, 2, 3] (by decide) rfl
  refine lv_aload_n hx hb dX7_tallyUp_8 rfl (lv_at hl 0 rfl) ?_
  refine va_get (D := D) (ci := 7) (C := RX7) (T := TX7) (N := 15) hx hb hts iw_X7_tallyUp_X7 hown hK hP 0 rfl rfl 6 (by decide) (hts (.fieldLink RX7 35 "KingTable$Solver" "greatest" "[I") (List.mem_cons_of_mem _ (List.mem_append_left _ (List.mem_cons_of_mem _ (List.Mem.head _))))) (fun _ h9 => h9) rfl dX7_tallyUp_9 ?_
  refine lv_iconst (v := (-1)) hx hb dX7_tallyUp_12 (by decide) ?_
  refine kt_bv (wc := [(vg, .inl (cI, 2, .inl ga))]) (wr := [(so, .inr (7, [.ref ru, .ref tr, .ref lk, .ref vp, .ref vd, .ref vt, .ref vg, .ref vw, .ref ve, .ref vo, .ref vq, .int qd, .int pp, .int ct, .int sv])), (vt, .inl (cI, 6, .inl (fun _ => 0))), (vw, .inl (cI, LW, .inl wo)), (ve, .inl (cI, LW, .inl de))]) [2] [0, 1, 3, 4] hP hD hS hA rfl rfl (by decide) (by decide) (by decide) (fun hPc hDc => va_runS (As := [.ref vg, .int (-1)]) (rest := []) ⟨hx, hb, hml, hown, hts⟩ (c_fill l D cI cZ cB H.size vg 2 ga (-1) (by decide)) (va_cwS 2 hts gX7_tallyUp_J7_fill_53178 rfl rfl rfl (by decide +kernel) ⟨Nat.le_of_ble_eq_true rfl, Nat.le_of_ble_eq_true rfl⟩) (kt_preS hN hK hPc hDc) rfl rfl hl.1 rfl (lv_room (Nat.le_of_ble_eq_true rfl)) dX7_tallyUp_13 ⟨Nat.le_of_ble_eq_true rfl, Nat.le_of_ble_eq_true rfl⟩) (fun u_ H locs hw_13 hP hD hS => ?_)
  have hP : va_P D vwCl [(so, .inr (7, [.ref ru, .ref tr, .ref lk, .ref vp, .ref vd, .ref vt, .ref vg, .ref vw, .ref ve, .ref vo, .ref vq, .int qd, .int pp, .int ct, .int sv])), (vt, .inl (cI, 6, .inl (fun _ => 0))), (vg, .inl (cI, 2, .inl (fun _ => (-1)))), (vw, .inl (cI, LW, .inl wo)), (ve, .inl (cI, LW, .inl de))] H := hP.sub [0, 1, 4, 2, 3] rfl
  have hD : va_D A [(so, .inr (7, [.ref ru, .ref tr, .ref lk, .ref vp, .ref vd, .ref vt, .ref vg, .ref vw, .ref ve, .ref vo, .ref vq, .int qd, .int pp, .int ct, .int sv])), (vt, .inl (cI, 6, .inl (fun _ => 0))), (vg, .inl (cI, 2, .inl (fun _ => (-1)))), (vw, .inl (cI, LW, .inl wo)), (ve, .inl (cI, LW, .inl de))] := hD.sub [0, 1, 4, 2, 3] (by decide) rfl
  refine lv_iconst (v := 0) hx hb dX7_tallyUp_16 (by decide) ?_
  refine lv_istore_n (lv' := [(1, .int 0), (0, .ref so)]) hx hb dX7_tallyUp_17 rfl hl (by decide) rfl (fun ls hl => ?_)
  refine kt_loop (σ := Int32 × (Nat → Int32) × (Nat → Int32)) 18 3 (fun u => [(so, .inr (7, [.ref ru, .ref tr, .ref lk, .ref vp, .ref vd, .ref vt, .ref vg, .ref vw, .ref ve, .ref vo, .ref vq, .int qd, .int pp, .int ct, .int sv])), (vt, .inl (cI, 6, .inl u.2.1)), (vg, .inl (cI, 2, .inl u.2.2)), (vw, .inl (cI, LW, .inl wo)), (ve, .inl (cI, LW, .inl de))]) (fun u => [(1, .int u.1), (0, .ref so)]) (fun n u => 0 ≤ u.1.toInt ∧ u.1.toInt ≤ (LQ : Int) ∧ (LQ : Int) < u.1.toInt + n) (fun u h => by omega) (fun n_18 ih_18 u hI H locs hP hD hS ls hl => ?_) (LQ + 1) ((0 : Int32), (fun _ => 0), (fun _ => (-1))) (by show 0 ≤ (0 : Int32).toInt ∧ (0 : Int32).toInt ≤ (LQ : Int) ∧ (LQ : Int) < (0 : Int32).toInt + (LQ + 1); exact ⟨by decide, by rw [kt_c0]; omega, by rw [kt_c0]; omega⟩) hP hD hS (lv_sub hl [0, 1] rfl)
  obtain ⟨s_, g1, g2⟩ := u
  have hP : va_P D vwCl [(so, .inr (7, [.ref ru, .ref tr, .ref lk, .ref vp, .ref vd, .ref vt, .ref vg, .ref vw, .ref ve, .ref vo, .ref vq, .int qd, .int pp, .int ct, .int sv])), (vt, .inl (cI, 6, .inl g1)), (vg, .inl (cI, 2, .inl g2)), (vw, .inl (cI, LW, .inl wo)), (ve, .inl (cI, LW, .inl de))] H := hP
  have hD : va_D A [(so, .inr (7, [.ref ru, .ref tr, .ref lk, .ref vp, .ref vd, .ref vt, .ref vg, .ref vw, .ref ve, .ref vo, .ref vq, .int qd, .int pp, .int ct, .int sv])), (vt, .inl (cI, 6, .inl g1)), (vg, .inl (cI, 2, .inl g2)), (vw, .inl (cI, LW, .inl wo)), (ve, .inl (cI, LW, .inl de))] := hD
  have hl : lv_has ls 3 [(1, .int s_), (0, .ref so)] := hl
  have hI : 0 ≤ s_.toInt ∧ s_.toInt ≤ (LQ : Int) ∧ (LQ : Int) < s_.toInt + (n_18 + 1) := hI
  refine lv_iload_n hx hb dX7_tallyUp_18 rfl (lv_at hl 0 rfl) ?_
  refine lv_iconst (v := 2) hx hb dX7_tallyUp_19 (by decide) ?_
  refine lv_aload_n hx hb dX7_tallyUp_20 rfl (lv_at hl 1 rfl) ?_
  refine va_get (D := D) (ci := 7) (C := RX7) (T := TX7) (N := 15) hx hb hts iw_X7_tallyUp_X7 hown hK hP 0 rfl rfl 12 (by decide) (hts (.fieldLink RX7 66 "KingTable$Solver" "places" "I") (List.mem_cons_of_mem _ (List.mem_append_left _ (List.mem_cons_of_mem _ (List.mem_cons_of_mem _ (List.Mem.head _)))))) (fun _ h9 => h9) rfl dX7_tallyUp_21 ?_
  refine lv_imul hx hb dX7_tallyUp_24 ?_
  refine lv_topi (fun t_24 et_24 => ?_)
  obtain ⟨k_24, hk_24, hm_24, hM_24⟩ := kt_mulk (C := 2) (et_24.trans (Int32.mul_comm _ _)) (by decide)
  try simp only [kt_c0, kt_c1, kt_c2, kt_c3, kt_c4, kt_c8, kt_c9, kt_cm1, kt_c81, kt_c40, kt_c7, kt_c5, kt_c6, kt_c512, kt_c10, kt_c10000] at hk_24
  refine lv_icmp_ge (tgt := 91) hx hb dX7_tallyUp_25 (by decide) (fun c_25 => ?_) (fun c_25 => ?_)
  · have d_25 := c_25
    simp only [kt_lt, kt_le, kt_eq, kt_c0, kt_c1, kt_c2, kt_c3, kt_c4, kt_c8, kt_c9, kt_cm1, kt_c81, kt_c40, kt_c7, kt_c5, kt_c6, kt_c512, kt_c10, kt_c10000] at d_25
    exact kt_rv (g1, g2) hx hb hr hlk hS dX7_tallyUp_91 hP hD (by show True; trivial)
  · have d_25 := c_25
    simp only [kt_lt, kt_le, kt_eq, kt_c0, kt_c1, kt_c2, kt_c3, kt_c4, kt_c8, kt_c9, kt_cm1, kt_c81, kt_c40, kt_c7, kt_c5, kt_c6, kt_c512, kt_c10, kt_c10000] at d_25
    refine lv_aload_n hx hb dX7_tallyUp_28 rfl (lv_at hl 1 rfl) ?_
    refine va_get (D := D) (ci := 7) (C := RX7) (T := TX7) (N := 15) hx hb hts iw_X7_tallyUp_X7 hown hK hP 0 rfl rfl 7 (by decide) (hts (.fieldLink RX7 38 "KingTable$Solver" "worths" "[I") (List.mem_cons_of_mem _ (List.mem_append_left _ (List.mem_cons_of_mem _ (List.mem_cons_of_mem _ (List.mem_cons_of_mem _ (List.Mem.head _))))))) (fun _ h9 => h9) rfl dX7_tallyUp_29 ?_
    refine lv_iload_n hx hb dX7_tallyUp_32 rfl (lv_at hl 0 rfl) ?_
    have hi_1 : vp_in s_ LW := by exact kt_in (by omega) (by omega)
    refine va_iald hx hb hK hP 3 0 rfl rfl hi_1 dX7_tallyUp_33 ?_
    refine lv_topi (fun a_33 ea_33 => ?_)
    have ra_33 := hwo.get hi_1
    rw [← ea_33] at ra_33
    refine lv_istore_n (lv' := [(2, .int a_33), (1, .int s_), (0, .ref so)]) hx hb dX7_tallyUp_34 rfl hl (by decide) rfl (fun ls hl => ?_)
    refine lv_iload_n hx hb dX7_tallyUp_35 rfl (lv_at hl 0 rfl) ?_
    refine lv_iconst (v := (-1)) hx hb dX7_tallyUp_36 (by decide) ?_
    refine kt_join (σ := (Nat → Int32) × (Nat → Int32)) 85 3 (fun u => [(so, .inr (7, [.ref ru, .ref tr, .ref lk, .ref vp, .ref vd, .ref vt, .ref vg, .ref vw, .ref ve, .ref vo, .ref vq, .int qd, .int pp, .int ct, .int sv])), (vt, .inl (cI, 6, .inl u.1)), (vg, .inl (cI, 2, .inl u.2)), (vw, .inl (cI, LW, .inl wo)), (ve, .inl (cI, LW, .inl de))]) (fun u => [(2, .int a_33), (1, .int s_), (0, .ref so)]) (fun u => []) (fun u => True) (D := D) (A := A) (H0 := s.heap) (fun u hI H locs hP hD hS ls hl => ?_) (fun j_85 => ?_)
    · obtain ⟨h1, h2⟩ := u
      have hP : va_P D vwCl [(so, .inr (7, [.ref ru, .ref tr, .ref lk, .ref vp, .ref vd, .ref vt, .ref vg, .ref vw, .ref ve, .ref vo, .ref vq, .int qd, .int pp, .int ct, .int sv])), (vt, .inl (cI, 6, .inl h1)), (vg, .inl (cI, 2, .inl h2)), (vw, .inl (cI, LW, .inl wo)), (ve, .inl (cI, LW, .inl de))] H := hP
      have hD : va_D A [(so, .inr (7, [.ref ru, .ref tr, .ref lk, .ref vp, .ref vd, .ref vt, .ref vg, .ref vw, .ref ve, .ref vo, .ref vq, .int qd, .int pp, .int ct, .int sv])), (vt, .inl (cI, 6, .inl h1)), (vg, .inl (cI, 2, .inl h2)), (vw, .inl (cI, LW, .inl wo)), (ve, .inl (cI, LW, .inl de))] := hD
      have hl : lv_has ls 3 [(2, .int a_33), (1, .int s_), (0, .ref so)] := hl
      obtain ⟨t_85, et_85⟩ : ∃ y : Int32, y = s_ + 1 := ⟨_, rfl⟩
      obtain ⟨k_85, hk_85, hm_85, hM_85⟩ := kt_addk et_85
      try simp only [kt_c0, kt_c1, kt_c2, kt_c3, kt_c4, kt_c8, kt_c9, kt_cm1, kt_c81, kt_c40, kt_c7, kt_c5, kt_c6, kt_c512, kt_c10, kt_c10000] at hk_85
      refine lv_iinc (v := t_85) (lv' := [(1, .int t_85), (2, .int a_33), (0, .ref so)]) hx hb dX7_tallyUp_85 hl (k := 1) rfl (by rw [et_85]; rfl) (by decide) rfl (fun ls hl => ?_)
      refine lv_goto (tgt := 18) hx hb dX7_tallyUp_88 (by decide) ?_
      exact ih_18 (t_85, h1, h2) (by show 0 ≤ t_85.toInt ∧ t_85.toInt ≤ (LQ : Int) ∧ (LQ : Int) < t_85.toInt + n_18; omega) H _ hP hD hS ls (lv_sub hl [0, 2] rfl)
    refine lv_icmp_ne (tgt := 43) hx hb dX7_tallyUp_37 (by decide) (fun c_37 => ?_) (fun c_37 => ?_)
    · have d_37 := c_37
      simp only [kt_lt, kt_le, kt_eq, kt_c0, kt_c1, kt_c2, kt_c3, kt_c4, kt_c8, kt_c9, kt_cm1, kt_c81, kt_c40, kt_c7, kt_c5, kt_c6, kt_c512, kt_c10, kt_c10000] at d_37
      refine lv_aload_n hx hb dX7_tallyUp_43 rfl (lv_at hl 2 rfl) ?_
      refine va_get (D := D) (ci := 7) (C := RX7) (T := TX7) (N := 15) hx hb hts iw_X7_tallyUp_X7 hown hK hP 0 rfl rfl 5 (by decide) (hts (.fieldLink RX7 32 "KingTable$Solver" "tallies" "[I") (List.mem_cons_of_mem _ (List.mem_append_left _ (List.Mem.head _)))) (fun _ h9 => h9) rfl dX7_tallyUp_44 ?_
      refine lv_iload_n hx hb dX7_tallyUp_47 rfl (lv_at hl 0 rfl) ?_
      refine lv_iconst (v := 2) hx hb dX7_tallyUp_48 (by decide) ?_
      refine lv_imul hx hb dX7_tallyUp_49 ?_
      refine lv_topi (fun t_49 et_49 => ?_)
      obtain ⟨k_49, hk_49, hm_49, hM_49⟩ := kt_mulk (C := 2) et_49 (by decide)
      try simp only [kt_c0, kt_c1, kt_c2, kt_c3, kt_c4, kt_c8, kt_c9, kt_cm1, kt_c81, kt_c40, kt_c7, kt_c5, kt_c6, kt_c512, kt_c10, kt_c10000] at hk_49
      refine lv_iload_n hx hb dX7_tallyUp_50 rfl (lv_at hl 1 rfl) ?_
      refine lv_iconst (v := 1) hx hb dX7_tallyUp_51 (by decide) ?_
      refine lv_iand hx hb dX7_tallyUp_52 ?_
      refine lv_topi (fun t_52 et_52 => ?_)
      have ha_52 : 0 ≤ t_52.toInt ∧ t_52.toInt ≤ 1 := by rw [et_52]; exact kt_and1 _
      refine lv_iadd hx hb dX7_tallyUp_53 ?_
      refine lv_topi (fun t_53 et_53 => ?_)
      obtain ⟨k_53, hk_53, hm_53, hM_53⟩ := kt_addk et_53
      refine lv_dup2_11 hx hb dX7_tallyUp_54 rfl rfl ?_
      have hi_2 : vp_in t_53 6 := by exact kt_in (by omega) (by omega)
      refine va_iald hx hb hK hP 1 0 rfl rfl hi_2 dX7_tallyUp_55 ?_
      refine lv_topi (fun a_55 ea_55 => ?_)
      refine lv_iconst (v := 1) hx hb dX7_tallyUp_56 (by decide) ?_
      refine lv_iadd hx hb dX7_tallyUp_57 ?_
      refine lv_topi (fun t_57 et_57 => ?_)
      obtain ⟨k_57, hk_57, hm_57, hM_57⟩ := kt_addk et_57
      try simp only [kt_c0, kt_c1, kt_c2, kt_c3, kt_c4, kt_c8, kt_c9, kt_cm1, kt_c81, kt_c40, kt_c7, kt_c5, kt_c6, kt_c512, kt_c10, kt_c10000] at hk_57
      have hi_3 : vp_in t_53 6 := by exact kt_in (by omega) (by omega)
      refine va_iast hx hb hK hP hD hS 1 0 rfl rfl hi_3 dX7_tallyUp_58 (fun H locs hP hD hS => ?_)
      have hP : va_P D vwCl [(so, .inr (7, [.ref ru, .ref tr, .ref lk, .ref vp, .ref vd, .ref vt, .ref vg, .ref vw, .ref ve, .ref vo, .ref vq, .int qd, .int pp, .int ct, .int sv])), (vt, .inl (cI, 6, .inl (upd g1 t_53.toNatClampNeg t_57))), (vg, .inl (cI, 2, .inl g2)), (vw, .inl (cI, LW, .inl wo)), (ve, .inl (cI, LW, .inl de))] H := hP
      have hD : va_D A [(so, .inr (7, [.ref ru, .ref tr, .ref lk, .ref vp, .ref vd, .ref vt, .ref vg, .ref vw, .ref ve, .ref vo, .ref vq, .int qd, .int pp, .int ct, .int sv])), (vt, .inl (cI, 6, .inl (upd g1 t_53.toNatClampNeg t_57))), (vg, .inl (cI, 2, .inl g2)), (vw, .inl (cI, LW, .inl wo)), (ve, .inl (cI, LW, .inl de))] := hD
      refine lv_iload_n hx hb dX7_tallyUp_59 rfl (lv_at hl 0 rfl) ?_
      refine lv_iconst (v := 2) hx hb dX7_tallyUp_60 (by decide) ?_
      refine lv_icmp_eq (tgt := 85) hx hb dX7_tallyUp_61 (by decide) (fun c_61 => ?_) (fun c_61 => ?_)
      · have d_61 := c_61
        simp only [kt_lt, kt_le, kt_eq, kt_c0, kt_c1, kt_c2, kt_c3, kt_c4, kt_c8, kt_c9, kt_cm1, kt_c81, kt_c40, kt_c7, kt_c5, kt_c6, kt_c512, kt_c10, kt_c10000] at d_61
        exact j_85 ((upd g1 t_53.toNatClampNeg t_57), g2) (by trivial) H _ hP hD hS ls (lv_sub hl [0, 1, 2] rfl)
      · have d_61 := c_61
        simp only [kt_lt, kt_le, kt_eq, kt_c0, kt_c1, kt_c2, kt_c3, kt_c4, kt_c8, kt_c9, kt_cm1, kt_c81, kt_c40, kt_c7, kt_c5, kt_c6, kt_c512, kt_c10, kt_c10000] at d_61
        refine lv_aload_n hx hb dX7_tallyUp_64 rfl (lv_at hl 2 rfl) ?_
        refine va_get (D := D) (ci := 7) (C := RX7) (T := TX7) (N := 15) hx hb hts iw_X7_tallyUp_X7 hown hK hP 0 rfl rfl 6 (by decide) (hts (.fieldLink RX7 35 "KingTable$Solver" "greatest" "[I") (List.mem_cons_of_mem _ (List.mem_append_left _ (List.mem_cons_of_mem _ (List.Mem.head _))))) (fun _ h9 => h9) rfl dX7_tallyUp_65 ?_
        refine lv_iload_n hx hb dX7_tallyUp_68 rfl (lv_at hl 0 rfl) ?_
        refine lv_aload_n hx hb dX7_tallyUp_69 rfl (lv_at hl 2 rfl) ?_
        refine va_get (D := D) (ci := 7) (C := RX7) (T := TX7) (N := 15) hx hb hts iw_X7_tallyUp_X7 hown hK hP 0 rfl rfl 6 (by decide) (hts (.fieldLink RX7 35 "KingTable$Solver" "greatest" "[I") (List.mem_cons_of_mem _ (List.mem_append_left _ (List.mem_cons_of_mem _ (List.Mem.head _))))) (fun _ h9 => h9) rfl dX7_tallyUp_70 ?_
        refine lv_iload_n hx hb dX7_tallyUp_73 rfl (lv_at hl 0 rfl) ?_
        have hi_4 : vp_in a_33 2 := by exact kt_in (by omega) (by omega)
        refine va_iald hx hb hK hP 2 0 rfl rfl hi_4 dX7_tallyUp_74 ?_
        refine lv_topi (fun a_74 ea_74 => ?_)
        refine lv_aload_n hx hb dX7_tallyUp_75 rfl (lv_at hl 2 rfl) ?_
        refine va_get (D := D) (ci := 7) (C := RX7) (T := TX7) (N := 15) hx hb hts iw_X7_tallyUp_X7 hown hK hP 0 rfl rfl 8 (by decide) (hts (.fieldLink RX7 41 "KingTable$Solver" "deeps" "[I") (List.mem_cons_of_mem _ (List.mem_append_left _ (List.mem_cons_of_mem _ (List.mem_cons_of_mem _ (List.mem_cons_of_mem _ (List.mem_cons_of_mem _ (List.Mem.head _)))))))) (fun _ h9 => h9) rfl dX7_tallyUp_76 ?_
        refine lv_iload_n hx hb dX7_tallyUp_79 rfl (lv_at hl 1 rfl) ?_
        have hi_5 : vp_in s_ LW := by exact kt_in (by omega) (by omega)
        refine va_iald hx hb hK hP 4 0 rfl rfl hi_5 dX7_tallyUp_80 ?_
        refine lv_topi (fun a_80 ea_80 => ?_)
        refine va_mmax hx hb (by rw [hml]; exact hl.1.symm) hown (hts (.methodLink RX7 195 Lib.Math.max.name) (List.mem_cons_of_mem _ (List.mem_append_left _ (List.mem_cons_of_mem _ (List.mem_cons_of_mem _ (List.mem_cons_of_mem _ (List.mem_cons_of_mem _ (List.mem_cons_of_mem _ (List.Mem.head _))))))))) (hts (.static Lib.Math.max.name) (List.mem_cons_of_mem _ (List.mem_append_left _ (List.mem_cons_of_mem _ (List.mem_cons_of_mem _ (List.mem_cons_of_mem _ (List.mem_cons_of_mem _ (List.mem_cons_of_mem _ (List.mem_cons_of_mem _ (List.Mem.head _)))))))))) (hts (.initialized "java/lang/Math") (List.mem_cons_of_mem _ (List.mem_append_left _ (List.mem_cons_of_mem _ (List.mem_cons_of_mem _ (List.mem_cons_of_mem _ (List.mem_cons_of_mem _ (List.mem_cons_of_mem _ (List.mem_cons_of_mem _ (List.mem_cons_of_mem _ (List.Mem.head _))))))))))) (hts (.code Lib.Math.max.name Lib.Math.max.code 2 (some .int)) (List.mem_cons_of_mem _ (List.mem_append_left _ (List.mem_cons_of_mem _ (List.mem_cons_of_mem _ (List.mem_cons_of_mem _ (List.mem_cons_of_mem _ (List.mem_cons_of_mem _ (List.mem_cons_of_mem _ (List.mem_cons_of_mem _ (List.mem_cons_of_mem _ (List.Mem.head _)))))))))))) (Nat.le_of_ble_eq_true rfl) (Nat.le_of_ble_eq_true rfl) (Nat.le_of_ble_eq_true rfl) (Nat.le_of_ble_eq_true rfl) dX7_tallyUp_81 ?_
        have hi_6 : vp_in a_33 2 := by exact kt_in (by omega) (by omega)
        refine va_iast hx hb hK hP hD hS 2 0 rfl rfl hi_6 dX7_tallyUp_84 (fun H locs hP hD hS => ?_)
        have hP : va_P D vwCl [(so, .inr (7, [.ref ru, .ref tr, .ref lk, .ref vp, .ref vd, .ref vt, .ref vg, .ref vw, .ref ve, .ref vo, .ref vq, .int qd, .int pp, .int ct, .int sv])), (vt, .inl (cI, 6, .inl (upd g1 t_53.toNatClampNeg t_57))), (vg, .inl (cI, 2, .inl (upd g2 a_33.toNatClampNeg (if a_74 < a_80 then a_80 else a_74)))), (vw, .inl (cI, LW, .inl wo)), (ve, .inl (cI, LW, .inl de))] H := hP
        have hD : va_D A [(so, .inr (7, [.ref ru, .ref tr, .ref lk, .ref vp, .ref vd, .ref vt, .ref vg, .ref vw, .ref ve, .ref vo, .ref vq, .int qd, .int pp, .int ct, .int sv])), (vt, .inl (cI, 6, .inl (upd g1 t_53.toNatClampNeg t_57))), (vg, .inl (cI, 2, .inl (upd g2 a_33.toNatClampNeg (if a_74 < a_80 then a_80 else a_74)))), (vw, .inl (cI, LW, .inl wo)), (ve, .inl (cI, LW, .inl de))] := hD
        exact j_85 ((upd g1 t_53.toNatClampNeg t_57), (upd g2 a_33.toNatClampNeg (if a_74 < a_80 then a_80 else a_74))) (by trivial) H _ hP hD hS ls (lv_sub hl [0, 1, 2] rfl)
    · have d_37 := c_37
      simp only [kt_lt, kt_le, kt_eq, kt_c0, kt_c1, kt_c2, kt_c3, kt_c4, kt_c8, kt_c9, kt_cm1, kt_c81, kt_c40, kt_c7, kt_c5, kt_c6, kt_c512, kt_c10, kt_c10000] at d_37
      refine lv_goto (tgt := 85) hx hb dX7_tallyUp_40 (by decide) ?_
      exact j_85 (g1, g2) (by trivial) H _ hP hD hS ls (lv_sub hl [0, 1, 2] rfl)

theorem iw_X7_indexOf_X7 : ∀ w ∈ wsX70, w ∈ wsX7_indexOf := fun _ h => kt_wp_X7_indexOf__X70 h
theorem iw_X7_indexOf_X6 : ∀ w ∈ wsX60, w ∈ wsX7_indexOf := fun _ h => kt_wp_X7_indexOf__X60 h
theorem iw_X7_indexOf_X8 : ∀ w ∈ wsX80, w ∈ wsX7_indexOf := fun _ h => kt_wp_X7_indexOf__X80 h
theorem iw_X7_indexOf_X0 : ∀ w ∈ wsX00, w ∈ wsX7_indexOf := fun _ h => kt_wp_X7_indexOf__X00 h
set_option maxHeartbeats 4000000 in
set_option maxRecDepth 100000 in
theorem c_X7_indexOf (l : Launch) (D : va_G) (cI cZ cB : ClassId) (sz : Nat) (so : Nat) (ru : Nat) (tr : Nat) (lk : Nat) (vp : Nat) (vd : Nat) (vt : Nat) (vg : Nat) (vw : Nat) (ve : Nat) (vo : Nat) (vq : Nat) (qd : Int32) (pp : Int32) (ct : Int32) (sv : Int32) (LW : Nat) (LH : Nat) (LS : Nat) (LQ : Nat) (la : Nat) (gr : Nat) (rk : Nat) (rs : Nat) (rt : Nat) (rv : Nat) (tt : Int32) (kg : Int32) (vc : Int32) (gt : Nat) (gg : Nat) (gn : Nat) (gs : Int32) (gm : Int32) (fp : Nat → Int32) (nw : Nat) (sf : Nat) (sh : Nat) (tu : Int32) (ff : Nat → Int32) (hlw : LW ≤ 10000) (hlh : LH ≤ 10000) (hls : LS ≤ 4000000) (hlq : LQ ≤ LW ∧ LQ ≤ LH) (hpp : 0 ≤ pp.toInt ∧ 2 * pp.toInt ≤ (LQ : Int)) (htt : 0 ≤ tt.toInt ∧ tt.toInt ≤ 40) (hff : kt_r ff 40 (-1) 80) (htu : 0 ≤ tu.toInt ∧ tu.toInt ≤ 1) : kt_Mi l yX7_indexOf wsX7_indexOf { frames := 1, cells := 0, slots := 0, locals := 21 } D (kt_ty cI cZ cB) [.ref so, .ref nw] sz [(so, .inr (7, [.ref ru, .ref tr, .ref lk, .ref vp, .ref vd, .ref vt, .ref vg, .ref vw, .ref ve, .ref vo, .ref vq, .int qd, .int pp, .int ct, .int sv])), (ru, .inr (6, [.ref la, .ref gr, .ref rk, .ref rs, .ref rt, .int tt, .int kg, .ref rv, .int vc])), (gr, .inr (0, [.ref gt, .ref gg, .ref gn, .int gs, .int gm])), (vp, .inl (cI, 40, .inl fp)), (nw, .inr (8, [.ref sf, .ref sh, .int tu])), (sf, .inl (cI, 40, .inl ff))] (fun (r : Int32) (u : Unit) => -1 ≤ r.toInt ∧ r.toInt < 2 * pp.toInt ∨ r.toInt = -1) (fun (u : Unit) => [(so, .inr (7, [.ref ru, .ref tr, .ref lk, .ref vp, .ref vd, .ref vt, .ref vg, .ref vw, .ref ve, .ref vo, .ref vq, .int qd, .int pp, .int ct, .int sv])), (ru, .inr (6, [.ref la, .ref gr, .ref rk, .ref rs, .ref rt, .int tt, .int kg, .ref rv, .int vc])), (gr, .inr (0, [.ref gt, .ref gg, .ref gn, .int gs, .int gm])), (vp, .inl (cI, 40, .inl fp)), (nw, .inr (8, [.ref sf, .ref sh, .int tu])), (sf, .inl (cI, 40, .inl ff))]) 0 0 := by
  refine kt_Mi.of (cc := cX7_indexOf) (maxL := 5) (ret := some .int) (by decide) rfl (Nat.le_of_ble_eq_true rfl) ?_
  intro p e s m below meth c A ls H hAt hP hD hS hl
  obtain ⟨hx, hb, hr, hml, hown, hts, hN, hK, hlk, hnm, hA⟩ := hAt
  have hl : lv_has ls 5 [(0, .ref so), (1, .ref nw)] := hl
  have hown : s.vm.findClass RX7 = some m.cls := hown
  refine lv_aload_n hx hb dX7_indexOf_0 rfl (lv_at hl 0 rfl) ?_
  refine va_get (D := D) (ci := 7) (C := RX7) (T := TX7) (N := 15) hx hb hts iw_X7_indexOf_X7 hown hK hP 0 rfl rfl 14 (by decide) (hts (.fieldLink RX7 54 "KingTable$Solver" "solved" "Z") (List.mem_cons_of_mem _ (List.mem_append_left _ (List.mem_append_left _ (List.mem_append_left _ (List.mem_append_left _ (List.Mem.head _))))))) (fun _ h9 => h9) rfl dX7_indexOf_1 ?_
  refine lv_if_ne (tgt := 9) hx hb dX7_indexOf_4 (by decide) (fun c_4 => ?_) (fun c_4 => ?_)
  · have d_4 := c_4
    simp only [kt_lt, kt_le, kt_eq, kt_c0, kt_c1, kt_c2, kt_c3, kt_c4, kt_c8, kt_c9, kt_cm1, kt_c81, kt_c40, kt_c7, kt_c5, kt_c6, kt_c512, kt_c10, kt_c10000] at d_4
    refine lv_iconst (v := 0) hx hb dX7_indexOf_9 (by decide) ?_
    refine lv_istore_n (lv' := [(2, .int 0), (0, .ref so), (1, .ref nw)]) hx hb dX7_indexOf_10 rfl hl (by decide) rfl (fun ls hl => ?_)
    refine lv_iconst (v := 0) hx hb dX7_indexOf_11 (by decide) ?_
    refine lv_istore_n (lv' := [(3, .int 0), (2, .int 0), (0, .ref so), (1, .ref nw)]) hx hb dX7_indexOf_12 rfl hl (by decide) rfl (fun ls hl => ?_)
    refine kt_loop (σ := Nat × Int32) 13 5 (fun u => [(so, .inr (7, [.ref ru, .ref tr, .ref lk, .ref vp, .ref vd, .ref vt, .ref vg, .ref vw, .ref ve, .ref vo, .ref vq, .int qd, .int pp, .int ct, .int sv])), (ru, .inr (6, [.ref la, .ref gr, .ref rk, .ref rs, .ref rt, .int tt, .int kg, .ref rv, .int vc])), (gr, .inr (0, [.ref gt, .ref gg, .ref gn, .int gs, .int gm])), (vp, .inl (cI, 40, .inl fp)), (nw, .inr (8, [.ref sf, .ref sh, .int tu])), (sf, .inl (cI, 40, .inl ff))]) (fun u => [(3, .int (nI u.1)), (2, .int u.2), (0, .ref so), (1, .ref nw)]) (fun n u => u.1 ≤ 40 ∧ 40 < u.1 + n) (fun u h => by omega) (fun n_13 ih_13 u hI H locs hP hD hS ls hl => ?_) (41) (0, (0 : Int32)) (by show 0 ≤ 40 ∧ 40 < 0 + 41; exact ⟨by decide, by decide⟩) hP hD hS (lv_sub hl [0, 1, 2, 3] rfl)
    obtain ⟨k, v⟩ := u
    have hP : va_P D vwCl [(so, .inr (7, [.ref ru, .ref tr, .ref lk, .ref vp, .ref vd, .ref vt, .ref vg, .ref vw, .ref ve, .ref vo, .ref vq, .int qd, .int pp, .int ct, .int sv])), (ru, .inr (6, [.ref la, .ref gr, .ref rk, .ref rs, .ref rt, .int tt, .int kg, .ref rv, .int vc])), (gr, .inr (0, [.ref gt, .ref gg, .ref gn, .int gs, .int gm])), (vp, .inl (cI, 40, .inl fp)), (nw, .inr (8, [.ref sf, .ref sh, .int tu])), (sf, .inl (cI, 40, .inl ff))] H := hP
    have hD : va_D A [(so, .inr (7, [.ref ru, .ref tr, .ref lk, .ref vp, .ref vd, .ref vt, .ref vg, .ref vw, .ref ve, .ref vo, .ref vq, .int qd, .int pp, .int ct, .int sv])), (ru, .inr (6, [.ref la, .ref gr, .ref rk, .ref rs, .ref rt, .int tt, .int kg, .ref rv, .int vc])), (gr, .inr (0, [.ref gt, .ref gg, .ref gn, .int gs, .int gm])), (vp, .inl (cI, 40, .inl fp)), (nw, .inr (8, [.ref sf, .ref sh, .int tu])), (sf, .inl (cI, 40, .inl ff))] := hD
    have hl : lv_has ls 5 [(3, .int (nI k)), (2, .int v), (0, .ref so), (1, .ref nw)] := hl
    have hI : k ≤ 40 ∧ 40 < k + (n_13 + 1) := hI
    have hk0 := kt_nI (n := k) (by omega)
    refine lv_iload_n hx hb dX7_indexOf_13 rfl (lv_at hl 0 rfl) ?_
    refine lv_aload_n hx hb dX7_indexOf_14 rfl (lv_at hl 2 rfl) ?_
    refine va_get (D := D) (ci := 7) (C := RX7) (T := TX7) (N := 15) hx hb hts iw_X7_indexOf_X7 hown hK hP 0 rfl rfl 0 (by decide) (hts (.fieldLink RX7 50 "KingTable$Solver" "rules" "LKingTable$Rules;") (List.mem_cons_of_mem _ (List.mem_append_left _ (List.mem_append_left _ (List.mem_append_left _ (List.mem_append_left _ (List.mem_cons_of_mem _ (List.Mem.head _)))))))) (fun _ h9 => h9) rfl dX7_indexOf_15 ?_
    refine va_getN (D := D) (ci := 6) (C := RX6) (T := TX6) (N := 9) hx hb hts iw_X7_indexOf_X6 hown hK hP 1 rfl rfl 5 (by decide) (va_Nw.use (w := .fieldLinkNest RX7 73 "KingTable$Rules" "total" "I" "KingTable") rfl (hN _ (by decide +kernel))) (fun _ h9 => h9) rfl dX7_indexOf_18 ?_
    refine lv_icmp_ge (tgt := 68) hx hb dX7_indexOf_21 (by decide) (fun c_21 => ?_) (fun c_21 => ?_)
    · have d_21 := c_21
      simp only [kt_lt, kt_le, kt_eq, kt_c0, kt_c1, kt_c2, kt_c3, kt_c4, kt_c8, kt_c9, kt_cm1, kt_c81, kt_c40, kt_c7, kt_c5, kt_c6, kt_c512, kt_c10, kt_c10000] at d_21
      refine lv_iconst (v := 2) hx hb dX7_indexOf_68 (by decide) ?_
      refine lv_iload_n hx hb dX7_indexOf_69 rfl (lv_at hl 1 rfl) ?_
      refine lv_imul hx hb dX7_indexOf_70 ?_
      refine lv_topi (fun t_70 et_70 => ?_)
      obtain ⟨k_70, hk_70, hm_70, hM_70⟩ := kt_mulk (C := 2) (et_70.trans (Int32.mul_comm _ _)) (by decide)
      try simp only [kt_c0, kt_c1, kt_c2, kt_c3, kt_c4, kt_c8, kt_c9, kt_cm1, kt_c81, kt_c40, kt_c7, kt_c5, kt_c6, kt_c512, kt_c10, kt_c10000] at hk_70
      refine lv_aload_n hx hb dX7_indexOf_71 rfl (lv_at hl 3 rfl) ?_
      refine va_getN (D := D) (ci := 8) (C := RX8) (T := TX8) (N := 3) hx hb hts iw_X7_indexOf_X8 hown hK hP 4 rfl rfl 2 (by decide) (va_Nw.use (w := .fieldLinkNest RX7 125 "KingTable$Stand" "turn" "I" "KingTable") rfl (hN _ (by decide +kernel))) (fun _ h9 => h9) rfl dX7_indexOf_72 ?_
      refine lv_iadd hx hb dX7_indexOf_75 ?_
      refine lv_topi (fun t_75 et_75 => ?_)
      obtain ⟨k_75, hk_75, hm_75, hM_75⟩ := kt_addk et_75
      refine lv_istore_n (lv' := [(3, .int t_75), (2, .int v), (0, .ref so), (1, .ref nw)]) hx hb dX7_indexOf_76 rfl hl (by decide) rfl (fun ls hl => ?_)
      refine lv_iload_n hx hb dX7_indexOf_77 rfl (lv_at hl 0 rfl) ?_
      refine lv_if_lt (tgt := 95) hx hb dX7_indexOf_78 (by decide) (fun c_78 => ?_) (fun c_78 => ?_)
      · have d_78 := c_78
        simp only [kt_lt, kt_le, kt_eq, kt_c0, kt_c1, kt_c2, kt_c3, kt_c4, kt_c8, kt_c9, kt_cm1, kt_c81, kt_c40, kt_c7, kt_c5, kt_c6, kt_c512, kt_c10, kt_c10000] at d_78
        refine lv_iconst (v := (-1)) hx hb dX7_indexOf_95 (by decide) ?_
        exact kt_ri () hx hb hr hlk hS dX7_indexOf_96 hP hD (by show -1 ≤ (-1 : Int32).toInt ∧ (-1 : Int32).toInt < 2 * pp.toInt ∨ (-1 : Int32).toInt = -1; first | omega | exact Or.inr (by decide))
      · have d_78 := c_78
        simp only [kt_lt, kt_le, kt_eq, kt_c0, kt_c1, kt_c2, kt_c3, kt_c4, kt_c8, kt_c9, kt_cm1, kt_c81, kt_c40, kt_c7, kt_c5, kt_c6, kt_c512, kt_c10, kt_c10000] at d_78
        refine lv_iload_n hx hb dX7_indexOf_81 rfl (lv_at hl 0 rfl) ?_
        refine lv_iconst (v := 2) hx hb dX7_indexOf_82 (by decide) ?_
        refine lv_aload_n hx hb dX7_indexOf_83 rfl (lv_at hl 2 rfl) ?_
        refine va_get (D := D) (ci := 7) (C := RX7) (T := TX7) (N := 15) hx hb hts iw_X7_indexOf_X7 hown hK hP 0 rfl rfl 12 (by decide) (hts (.fieldLink RX7 66 "KingTable$Solver" "places" "I") (List.mem_cons_of_mem _ (List.mem_append_left _ (List.mem_append_left _ (List.mem_append_left _ (List.mem_append_left _ (List.mem_cons_of_mem _ (List.mem_cons_of_mem _ (List.mem_cons_of_mem _ (List.Mem.head _)))))))))) (fun _ h9 => h9) rfl dX7_indexOf_84 ?_
        refine lv_imul hx hb dX7_indexOf_87 ?_
        refine lv_topi (fun t_87 et_87 => ?_)
        obtain ⟨k_87, hk_87, hm_87, hM_87⟩ := kt_mulk (C := 2) (et_87.trans (Int32.mul_comm _ _)) (by decide)
        try simp only [kt_c0, kt_c1, kt_c2, kt_c3, kt_c4, kt_c8, kt_c9, kt_cm1, kt_c81, kt_c40, kt_c7, kt_c5, kt_c6, kt_c512, kt_c10, kt_c10000] at hk_87
        refine lv_icmp_ge (tgt := 95) hx hb dX7_indexOf_88 (by decide) (fun c_88 => ?_) (fun c_88 => ?_)
        · have d_88 := c_88
          simp only [kt_lt, kt_le, kt_eq, kt_c0, kt_c1, kt_c2, kt_c3, kt_c4, kt_c8, kt_c9, kt_cm1, kt_c81, kt_c40, kt_c7, kt_c5, kt_c6, kt_c512, kt_c10, kt_c10000] at d_88
          refine lv_iconst (v := (-1)) hx hb dX7_indexOf_95 (by decide) ?_
          exact kt_ri () hx hb hr hlk hS dX7_indexOf_96 hP hD (by show -1 ≤ (-1 : Int32).toInt ∧ (-1 : Int32).toInt < 2 * pp.toInt ∨ (-1 : Int32).toInt = -1; first | omega | exact Or.inr (by decide))
        · have d_88 := c_88
          simp only [kt_lt, kt_le, kt_eq, kt_c0, kt_c1, kt_c2, kt_c3, kt_c4, kt_c8, kt_c9, kt_cm1, kt_c81, kt_c40, kt_c7, kt_c5, kt_c6, kt_c512, kt_c10, kt_c10000] at d_88
          refine lv_iload_n hx hb dX7_indexOf_91 rfl (lv_at hl 0 rfl) ?_
          refine lv_goto (tgt := 96) hx hb dX7_indexOf_92 (by decide) ?_
          exact kt_ri () hx hb hr hlk hS dX7_indexOf_96 hP hD (by show -1 ≤ t_75.toInt ∧ t_75.toInt < 2 * pp.toInt ∨ t_75.toInt = -1; first | omega | exact Or.inr (by decide))
    · have d_21 := c_21
      simp only [kt_lt, kt_le, kt_eq, kt_c0, kt_c1, kt_c2, kt_c3, kt_c4, kt_c8, kt_c9, kt_cm1, kt_c81, kt_c40, kt_c7, kt_c5, kt_c6, kt_c512, kt_c10, kt_c10000] at d_21
      refine lv_aload_n hx hb dX7_indexOf_24 rfl (lv_at hl 3 rfl) ?_
      refine lv_iload_n hx hb dX7_indexOf_25 rfl (lv_at hl 0 rfl) ?_
      refine kt_pi (wc := [(nw, .inr (8, [.ref sf, .ref sh, .int tu])), (sf, .inl (cI, 40, .inl ff))]) [4, 5] hP hD hS hA rfl (by decide) (fun hPc hDc => va_runV (As := [.int (nI k)]) (rest := []) ⟨hx, hb, hml, hown, hts⟩ (c_X8_fieldOf l D cI cZ cB H.size nw sf sh tu ff (nI k) (by first | assumption | omega | rfl | decide)) (cwV 1 hts gX7_indexOf_X8_fieldOf rfl rfl rfl (by decide +kernel) ⟨Nat.le_of_ble_eq_true rfl, Nat.le_of_ble_eq_true rfl⟩) (kt_preV hN hK hPc hDc 0 (ci := 8) (q := (RX8, TX8, 3)) rfl rfl) rfl rfl hl.1 rfl (lv_room (Nat.le_of_ble_eq_true rfl)) dX7_indexOf_26 ⟨Nat.le_of_ble_eq_true rfl, Nat.le_of_ble_eq_true rfl⟩) (fun r_26 _ H locs hw_26 hP hS => ?_)
      refine lv_istore (lv' := [(4, .int r_26), (3, .int (nI k)), (2, .int v), (0, .ref so), (1, .ref nw)]) hx hb dX7_indexOf_29 hl (by decide) rfl (fun ls hl => ?_)
      refine lv_iload_n hx hb dX7_indexOf_31 rfl (lv_at hl 2 rfl) ?_
      refine lv_iload hx hb dX7_indexOf_32 (lv_at hl 0 rfl) ?_
      refine lv_iconst (v := (-1)) hx hb dX7_indexOf_34 (by decide) ?_
      refine kt_join (σ := Int32) 53 5 (fun u => [(so, .inr (7, [.ref ru, .ref tr, .ref lk, .ref vp, .ref vd, .ref vt, .ref vg, .ref vw, .ref ve, .ref vo, .ref vq, .int qd, .int pp, .int ct, .int sv])), (ru, .inr (6, [.ref la, .ref gr, .ref rk, .ref rs, .ref rt, .int tt, .int kg, .ref rv, .int vc])), (gr, .inr (0, [.ref gt, .ref gg, .ref gn, .int gs, .int gm])), (vp, .inl (cI, 40, .inl fp)), (nw, .inr (8, [.ref sf, .ref sh, .int tu])), (sf, .inl (cI, 40, .inl ff))]) (fun u => [(4, .int r_26), (3, .int (nI k)), (2, .int v), (0, .ref so), (1, .ref nw)]) (fun u => [.int u, .int v]) (fun u => True) (D := D) (A := A) (H0 := s.heap) (fun u hI H locs hP hD hS ls hl => ?_) (fun j_53 => ?_)
      · obtain ⟨fv_, rfl⟩ : ∃ z, z = u := ⟨_, rfl⟩
        have hP : va_P D vwCl [(so, .inr (7, [.ref ru, .ref tr, .ref lk, .ref vp, .ref vd, .ref vt, .ref vg, .ref vw, .ref ve, .ref vo, .ref vq, .int qd, .int pp, .int ct, .int sv])), (ru, .inr (6, [.ref la, .ref gr, .ref rk, .ref rs, .ref rt, .int tt, .int kg, .ref rv, .int vc])), (gr, .inr (0, [.ref gt, .ref gg, .ref gn, .int gs, .int gm])), (vp, .inl (cI, 40, .inl fp)), (nw, .inr (8, [.ref sf, .ref sh, .int tu])), (sf, .inl (cI, 40, .inl ff))] H := hP
        have hD : va_D A [(so, .inr (7, [.ref ru, .ref tr, .ref lk, .ref vp, .ref vd, .ref vt, .ref vg, .ref vw, .ref ve, .ref vo, .ref vq, .int qd, .int pp, .int ct, .int sv])), (ru, .inr (6, [.ref la, .ref gr, .ref rk, .ref rs, .ref rt, .int tt, .int kg, .ref rv, .int vc])), (gr, .inr (0, [.ref gt, .ref gg, .ref gn, .int gs, .int gm])), (vp, .inl (cI, 40, .inl fp)), (nw, .inr (8, [.ref sf, .ref sh, .int tu])), (sf, .inl (cI, 40, .inl ff))] := hD
        have hl : lv_has ls 5 [(4, .int r_26), (3, .int (nI k)), (2, .int v), (0, .ref so), (1, .ref nw)] := hl
        refine lv_aload_n hx hb dX7_indexOf_53 rfl (lv_at hl 3 rfl) ?_
        refine va_get (D := D) (ci := 7) (C := RX7) (T := TX7) (N := 15) hx hb hts iw_X7_indexOf_X7 hown hK hP 0 rfl rfl 3 (by decide) (hts (.fieldLink RX7 25 "KingTable$Solver" "powers" "[I") (List.mem_cons_of_mem _ (List.mem_append_left _ (List.mem_append_left _ (List.mem_append_left _ (List.mem_append_left _ (List.mem_cons_of_mem _ (List.mem_cons_of_mem _ (List.Mem.head _))))))))) (fun _ h9 => h9) rfl dX7_indexOf_54 ?_
        refine lv_iload_n hx hb dX7_indexOf_57 rfl (lv_at hl 1 rfl) ?_
        have hi_1 : vp_in (nI k) 40 := by exact kt_in (by omega) (by omega)
        refine va_iald hx hb hK hP 3 0 rfl rfl hi_1 dX7_indexOf_58 ?_
        refine lv_topi (fun a_58 ea_58 => ?_)
        refine lv_imul hx hb dX7_indexOf_59 ?_
        refine lv_topi (fun t_59 et_59 => ?_)
        obtain ⟨k_59, hk_59, hm_59, hM_59⟩ := kt_mulxk et_59
        refine lv_iadd hx hb dX7_indexOf_60 ?_
        refine lv_topi (fun t_60 et_60 => ?_)
        obtain ⟨k_60, hk_60, hm_60, hM_60⟩ := kt_addk et_60
        refine lv_istore_n (lv' := [(2, .int t_60), (4, .int r_26), (3, .int (nI k)), (0, .ref so), (1, .ref nw)]) hx hb dX7_indexOf_61 rfl hl (by decide) rfl (fun ls hl => ?_)
        refine lv_iinc (v := nI (k + 1)) (lv' := [(3, .int (nI (k + 1))), (2, .int t_60), (4, .int r_26), (0, .ref so), (1, .ref nw)]) hx hb dX7_indexOf_62 hl (k := 2) rfl (nI_1 _) (by decide) rfl (fun ls hl => ?_)
        refine lv_goto (tgt := 13) hx hb dX7_indexOf_65 (by decide) ?_
        exact ih_13 ((k + 1), t_60) (by show (k + 1) ≤ 40 ∧ 40 < (k + 1) + n_13; omega) H _ hP hD hS ls (lv_sub hl [0, 1, 3, 4] rfl)
      refine lv_icmp_ne (tgt := 51) hx hb dX7_indexOf_35 (by decide) (fun c_35 => ?_) (fun c_35 => ?_)
      · have d_35 := c_35
        simp only [kt_lt, kt_le, kt_eq, kt_c0, kt_c1, kt_c2, kt_c3, kt_c4, kt_c8, kt_c9, kt_cm1, kt_c81, kt_c40, kt_c7, kt_c5, kt_c6, kt_c512, kt_c10, kt_c10000] at d_35
        refine lv_iload hx hb dX7_indexOf_51 (lv_at hl 0 rfl) ?_
        exact j_53 r_26 (by trivial) H _ hP hD hS ls (lv_sub hl [0, 1, 2, 3, 4] rfl)
      · have d_35 := c_35
        simp only [kt_lt, kt_le, kt_eq, kt_c0, kt_c1, kt_c2, kt_c3, kt_c4, kt_c8, kt_c9, kt_cm1, kt_c81, kt_c40, kt_c7, kt_c5, kt_c6, kt_c512, kt_c10, kt_c10000] at d_35
        refine lv_aload_n hx hb dX7_indexOf_38 rfl (lv_at hl 3 rfl) ?_
        refine va_get (D := D) (ci := 7) (C := RX7) (T := TX7) (N := 15) hx hb hts iw_X7_indexOf_X7 hown hK hP 0 rfl rfl 0 (by decide) (hts (.fieldLink RX7 50 "KingTable$Solver" "rules" "LKingTable$Rules;") (List.mem_cons_of_mem _ (List.mem_append_left _ (List.mem_append_left _ (List.mem_append_left _ (List.mem_append_left _ (List.mem_cons_of_mem _ (List.Mem.head _)))))))) (fun _ h9 => h9) rfl dX7_indexOf_39 ?_
        refine va_getN (D := D) (ci := 6) (C := RX6) (T := TX6) (N := 9) hx hb hts iw_X7_indexOf_X6 hown hK hP 1 rfl rfl 1 (by decide) (va_Nw.use (w := .fieldLinkNest RX7 78 "KingTable$Rules" "ground" "LKingTable$Ground;" "KingTable") rfl (hN _ (by decide +kernel))) (fun _ h9 => h9) rfl dX7_indexOf_42 ?_
        refine va_getN (D := D) (ci := 0) (C := RX0) (T := TX0) (N := 5) hx hb hts iw_X7_indexOf_X0 hown hK hP 2 rfl rfl 3 (by decide) (va_Nw.use (w := .fieldLinkNest RX7 115 "KingTable$Ground" "size" "I" "KingTable") rfl (hN _ (by decide +kernel))) (fun _ h9 => h9) rfl dX7_indexOf_45 ?_
        refine lv_goto (tgt := 53) hx hb dX7_indexOf_48 (by decide) ?_
        exact j_53 gs (by trivial) H _ hP hD hS ls (lv_sub hl [0, 1, 2, 3, 4] rfl)
  · have d_4 := c_4
    simp only [kt_lt, kt_le, kt_eq, kt_c0, kt_c1, kt_c2, kt_c3, kt_c4, kt_c8, kt_c9, kt_cm1, kt_c81, kt_c40, kt_c7, kt_c5, kt_c6, kt_c512, kt_c10, kt_c10000] at d_4
    refine lv_iconst (v := (-1)) hx hb dX7_indexOf_7 (by decide) ?_
    exact kt_ri () hx hb hr hlk hS dX7_indexOf_8 hP hD (by show -1 ≤ (-1 : Int32).toInt ∧ (-1 : Int32).toInt < 2 * pp.toInt ∨ (-1 : Int32).toInt = -1; first | omega | exact Or.inr (by decide))

theorem iw_X7_worthOf_X7 : ∀ w ∈ wsX70, w ∈ wsX7_worthOf := fun _ h => kt_wp_X7_worthOf__X70 h
set_option maxHeartbeats 4000000 in
set_option maxRecDepth 100000 in
theorem c_X7_worthOf (l : Launch) (D : va_G) (cI cZ cB : ClassId) (sz : Nat) (so : Nat) (ru : Nat) (tr : Nat) (lk : Nat) (vp : Nat) (vd : Nat) (vt : Nat) (vg : Nat) (vw : Nat) (ve : Nat) (vo : Nat) (vq : Nat) (qd : Int32) (pp : Int32) (ct : Int32) (sv : Int32) (LW : Nat) (LH : Nat) (LS : Nat) (LQ : Nat) (la : Nat) (gr : Nat) (rk : Nat) (rs : Nat) (rt : Nat) (rv : Nat) (tt : Int32) (kg : Int32) (vc : Int32) (gt : Nat) (gg : Nat) (gn : Nat) (gs : Int32) (gm : Int32) (fp : Nat → Int32) (nw : Nat) (sf : Nat) (sh : Nat) (tu : Int32) (ff : Nat → Int32) (wo : Nat → Int32) (hlw : LW ≤ 10000) (hlh : LH ≤ 10000) (hls : LS ≤ 4000000) (hlq : LQ ≤ LW ∧ LQ ≤ LH) (hpp : 0 ≤ pp.toInt ∧ 2 * pp.toInt ≤ (LQ : Int)) (htt : 0 ≤ tt.toInt ∧ tt.toInt ≤ 40) (hff : kt_r ff 40 (-1) 80) (htu : 0 ≤ tu.toInt ∧ tu.toInt ≤ 1) (hwo : kt_r wo LW (-1) 2) : kt_Mi l yX7_worthOf wsX7_worthOf { frames := 2, cells := 0, slots := 0, locals := 45 } D (kt_ty cI cZ cB) [.ref so, .ref nw] sz [(so, .inr (7, [.ref ru, .ref tr, .ref lk, .ref vp, .ref vd, .ref vt, .ref vg, .ref vw, .ref ve, .ref vo, .ref vq, .int qd, .int pp, .int ct, .int sv])), (ru, .inr (6, [.ref la, .ref gr, .ref rk, .ref rs, .ref rt, .int tt, .int kg, .ref rv, .int vc])), (gr, .inr (0, [.ref gt, .ref gg, .ref gn, .int gs, .int gm])), (vp, .inl (cI, 40, .inl fp)), (nw, .inr (8, [.ref sf, .ref sh, .int tu])), (sf, .inl (cI, 40, .inl ff)), (vw, .inl (cI, LW, .inl wo))] (fun (r : Int32) (u : Unit) => True) (fun (u : Unit) => [(so, .inr (7, [.ref ru, .ref tr, .ref lk, .ref vp, .ref vd, .ref vt, .ref vg, .ref vw, .ref ve, .ref vo, .ref vq, .int qd, .int pp, .int ct, .int sv])), (ru, .inr (6, [.ref la, .ref gr, .ref rk, .ref rs, .ref rt, .int tt, .int kg, .ref rv, .int vc])), (gr, .inr (0, [.ref gt, .ref gg, .ref gn, .int gs, .int gm])), (vp, .inl (cI, 40, .inl fp)), (nw, .inr (8, [.ref sf, .ref sh, .int tu])), (sf, .inl (cI, 40, .inl ff)), (vw, .inl (cI, LW, .inl wo))]) 0 0 := by
  refine kt_Mi.of (cc := cX7_worthOf) (maxL := 3) (ret := some .int) (by decide) rfl (Nat.le_of_ble_eq_true rfl) ?_
  intro p e s m below meth c A ls H hAt hP hD hS hl
  obtain ⟨hx, hb, hr, hml, hown, hts, hN, hK, hlk, hnm, hA⟩ := hAt
  have hl : lv_has ls 3 [(0, .ref so), (1, .ref nw)] := hl
  have hown : s.vm.findClass RX7 = some m.cls := hown
  refine lv_aload_n hx hb dX7_worthOf_0 rfl (lv_at hl 0 rfl) ?_
  refine lv_aload_n hx hb dX7_worthOf_1 rfl (lv_at hl 1 rfl) ?_
  refine kt_pi (wc := [(so, .inr (7, [.ref ru, .ref tr, .ref lk, .ref vp, .ref vd, .ref vt, .ref vg, .ref vw, .ref ve, .ref vo, .ref vq, .int qd, .int pp, .int ct, .int sv])), (ru, .inr (6, [.ref la, .ref gr, .ref rk, .ref rs, .ref rt, .int tt, .int kg, .ref rv, .int vc])), (gr, .inr (0, [.ref gt, .ref gg, .ref gn, .int gs, .int gm])), (vp, .inl (cI, 40, .inl fp)), (nw, .inr (8, [.ref sf, .ref sh, .int tu])), (sf, .inl (cI, 40, .inl ff))]) [0, 1, 2, 3, 4, 5] hP hD hS hA rfl (by decide) (fun hPc hDc => va_runV (As := [.ref nw]) (rest := []) ⟨hx, hb, hml, hown, hts⟩ (c_X7_indexOf l D cI cZ cB H.size so ru tr lk vp vd vt vg vw ve vo vq qd pp ct sv LW LH LS LQ la gr rk rs rt rv tt kg vc gt gg gn gs gm fp nw sf sh tu ff (by first | assumption | omega | rfl | decide) (by first | assumption | omega | rfl | decide) (by first | assumption | omega | rfl | decide) (by first | assumption | omega | rfl | decide) (by first | assumption | omega | rfl | decide) (by first | assumption | omega | rfl | decide) (by first | assumption | omega | rfl | decide) (by first | assumption | omega | rfl | decide)) (cwV 1 hts gX7_worthOf_X7_indexOf rfl rfl rfl (by decide +kernel) ⟨Nat.le_of_ble_eq_true rfl, Nat.le_of_ble_eq_true rfl⟩) (kt_preV hN hK hPc hDc 0 (ci := 7) (q := (RX7, TX7, 15)) rfl rfl) rfl rfl hl.1 rfl (lv_room (Nat.le_of_ble_eq_true rfl)) dX7_worthOf_2 ⟨Nat.le_of_ble_eq_true rfl, Nat.le_of_ble_eq_true rfl⟩) (fun r_2 _ H locs hw_2 hP hS => ?_)
  refine lv_istore_n (lv' := [(2, .int r_2), (0, .ref so), (1, .ref nw)]) hx hb dX7_worthOf_5 rfl hl (by decide) rfl (fun ls hl => ?_)
  refine lv_iload_n hx hb dX7_worthOf_6 rfl (lv_at hl 0 rfl) ?_
  refine lv_iconst (v := (-1)) hx hb dX7_worthOf_7 (by decide) ?_
  refine lv_icmp_ne (tgt := 15) hx hb dX7_worthOf_8 (by decide) (fun c_8 => ?_) (fun c_8 => ?_)
  · have d_8 := c_8
    simp only [kt_lt, kt_le, kt_eq, kt_c0, kt_c1, kt_c2, kt_c3, kt_c4, kt_c8, kt_c9, kt_cm1, kt_c81, kt_c40, kt_c7, kt_c5, kt_c6, kt_c512, kt_c10, kt_c10000] at d_8
    refine lv_aload_n hx hb dX7_worthOf_15 rfl (lv_at hl 1 rfl) ?_
    refine va_get (D := D) (ci := 7) (C := RX7) (T := TX7) (N := 15) hx hb hts iw_X7_worthOf_X7 hown hK hP 0 rfl rfl 7 (by decide) (hts (.fieldLink RX7 38 "KingTable$Solver" "worths" "[I") (List.mem_cons_of_mem _ (List.mem_append_left _ (List.mem_append_left _ (List.mem_append_left _ (List.mem_append_left _ (List.Mem.head _))))))) (fun _ h9 => h9) rfl dX7_worthOf_16 ?_
    refine lv_iload_n hx hb dX7_worthOf_19 rfl (lv_at hl 0 rfl) ?_
    have hi_1 : vp_in r_2 LW := by exact kt_in (by omega) (by omega)
    refine va_iald hx hb hK hP 6 0 rfl rfl hi_1 dX7_worthOf_20 ?_
    refine lv_topi (fun a_20 ea_20 => ?_)
    have ra_20 := hwo.get hi_1
    rw [← ea_20] at ra_20
    exact kt_ri () hx hb hr hlk hS dX7_worthOf_21 hP hD (by show True; trivial)
  · have d_8 := c_8
    simp only [kt_lt, kt_le, kt_eq, kt_c0, kt_c1, kt_c2, kt_c3, kt_c4, kt_c8, kt_c9, kt_cm1, kt_c81, kt_c40, kt_c7, kt_c5, kt_c6, kt_c512, kt_c10, kt_c10000] at d_8
    refine lv_iconst (v := (-1)) hx hb dX7_worthOf_11 (by decide) ?_
    refine lv_goto (tgt := 21) hx hb dX7_worthOf_12 (by decide) ?_
    exact kt_ri () hx hb hr hlk hS dX7_worthOf_21 hP hD (by show True; trivial)

theorem iw_X7_deepOf_X7 : ∀ w ∈ wsX70, w ∈ wsX7_deepOf := fun _ h => kt_wp_X7_deepOf__X70 h
set_option maxHeartbeats 4000000 in
set_option maxRecDepth 100000 in
theorem c_X7_deepOf (l : Launch) (D : va_G) (cI cZ cB : ClassId) (sz : Nat) (so : Nat) (ru : Nat) (tr : Nat) (lk : Nat) (vp : Nat) (vd : Nat) (vt : Nat) (vg : Nat) (vw : Nat) (ve : Nat) (vo : Nat) (vq : Nat) (qd : Int32) (pp : Int32) (ct : Int32) (sv : Int32) (LW : Nat) (LH : Nat) (LS : Nat) (LQ : Nat) (la : Nat) (gr : Nat) (rk : Nat) (rs : Nat) (rt : Nat) (rv : Nat) (tt : Int32) (kg : Int32) (vc : Int32) (gt : Nat) (gg : Nat) (gn : Nat) (gs : Int32) (gm : Int32) (fp : Nat → Int32) (nw : Nat) (sf : Nat) (sh : Nat) (tu : Int32) (ff : Nat → Int32) (de : Nat → Int32) (hlw : LW ≤ 10000) (hlh : LH ≤ 10000) (hls : LS ≤ 4000000) (hlq : LQ ≤ LW ∧ LQ ≤ LH) (hpp : 0 ≤ pp.toInt ∧ 2 * pp.toInt ≤ (LQ : Int)) (htt : 0 ≤ tt.toInt ∧ tt.toInt ≤ 40) (hff : kt_r ff 40 (-1) 80) (htu : 0 ≤ tu.toInt ∧ tu.toInt ≤ 1) : kt_Mi l yX7_deepOf wsX7_deepOf { frames := 2, cells := 0, slots := 0, locals := 45 } D (kt_ty cI cZ cB) [.ref so, .ref nw] sz [(so, .inr (7, [.ref ru, .ref tr, .ref lk, .ref vp, .ref vd, .ref vt, .ref vg, .ref vw, .ref ve, .ref vo, .ref vq, .int qd, .int pp, .int ct, .int sv])), (ru, .inr (6, [.ref la, .ref gr, .ref rk, .ref rs, .ref rt, .int tt, .int kg, .ref rv, .int vc])), (gr, .inr (0, [.ref gt, .ref gg, .ref gn, .int gs, .int gm])), (vp, .inl (cI, 40, .inl fp)), (nw, .inr (8, [.ref sf, .ref sh, .int tu])), (sf, .inl (cI, 40, .inl ff)), (ve, .inl (cI, LW, .inl de))] (fun (r : Int32) (u : Unit) => True) (fun (u : Unit) => [(so, .inr (7, [.ref ru, .ref tr, .ref lk, .ref vp, .ref vd, .ref vt, .ref vg, .ref vw, .ref ve, .ref vo, .ref vq, .int qd, .int pp, .int ct, .int sv])), (ru, .inr (6, [.ref la, .ref gr, .ref rk, .ref rs, .ref rt, .int tt, .int kg, .ref rv, .int vc])), (gr, .inr (0, [.ref gt, .ref gg, .ref gn, .int gs, .int gm])), (vp, .inl (cI, 40, .inl fp)), (nw, .inr (8, [.ref sf, .ref sh, .int tu])), (sf, .inl (cI, 40, .inl ff)), (ve, .inl (cI, LW, .inl de))]) 0 0 := by
  refine kt_Mi.of (cc := cX7_deepOf) (maxL := 3) (ret := some .int) (by decide) rfl (Nat.le_of_ble_eq_true rfl) ?_
  intro p e s m below meth c A ls H hAt hP hD hS hl
  obtain ⟨hx, hb, hr, hml, hown, hts, hN, hK, hlk, hnm, hA⟩ := hAt
  have hl : lv_has ls 3 [(0, .ref so), (1, .ref nw)] := hl
  have hown : s.vm.findClass RX7 = some m.cls := hown
  refine lv_aload_n hx hb dX7_deepOf_0 rfl (lv_at hl 0 rfl) ?_
  refine lv_aload_n hx hb dX7_deepOf_1 rfl (lv_at hl 1 rfl) ?_
  refine kt_pi (wc := [(so, .inr (7, [.ref ru, .ref tr, .ref lk, .ref vp, .ref vd, .ref vt, .ref vg, .ref vw, .ref ve, .ref vo, .ref vq, .int qd, .int pp, .int ct, .int sv])), (ru, .inr (6, [.ref la, .ref gr, .ref rk, .ref rs, .ref rt, .int tt, .int kg, .ref rv, .int vc])), (gr, .inr (0, [.ref gt, .ref gg, .ref gn, .int gs, .int gm])), (vp, .inl (cI, 40, .inl fp)), (nw, .inr (8, [.ref sf, .ref sh, .int tu])), (sf, .inl (cI, 40, .inl ff))]) [0, 1, 2, 3, 4, 5] hP hD hS hA rfl (by decide) (fun hPc hDc => va_runV (As := [.ref nw]) (rest := []) ⟨hx, hb, hml, hown, hts⟩ (c_X7_indexOf l D cI cZ cB H.size so ru tr lk vp vd vt vg vw ve vo vq qd pp ct sv LW LH LS LQ la gr rk rs rt rv tt kg vc gt gg gn gs gm fp nw sf sh tu ff (by first | assumption | omega | rfl | decide) (by first | assumption | omega | rfl | decide) (by first | assumption | omega | rfl | decide) (by first | assumption | omega | rfl | decide) (by first | assumption | omega | rfl | decide) (by first | assumption | omega | rfl | decide) (by first | assumption | omega | rfl | decide) (by first | assumption | omega | rfl | decide)) (cwV 1 hts gX7_deepOf_X7_indexOf rfl rfl rfl (by decide +kernel) ⟨Nat.le_of_ble_eq_true rfl, Nat.le_of_ble_eq_true rfl⟩) (kt_preV hN hK hPc hDc 0 (ci := 7) (q := (RX7, TX7, 15)) rfl rfl) rfl rfl hl.1 rfl (lv_room (Nat.le_of_ble_eq_true rfl)) dX7_deepOf_2 ⟨Nat.le_of_ble_eq_true rfl, Nat.le_of_ble_eq_true rfl⟩) (fun r_2 _ H locs hw_2 hP hS => ?_)
  refine lv_istore_n (lv' := [(2, .int r_2), (0, .ref so), (1, .ref nw)]) hx hb dX7_deepOf_5 rfl hl (by decide) rfl (fun ls hl => ?_)
  refine lv_iload_n hx hb dX7_deepOf_6 rfl (lv_at hl 0 rfl) ?_
  refine lv_iconst (v := (-1)) hx hb dX7_deepOf_7 (by decide) ?_
  refine lv_icmp_ne (tgt := 15) hx hb dX7_deepOf_8 (by decide) (fun c_8 => ?_) (fun c_8 => ?_)
  · have d_8 := c_8
    simp only [kt_lt, kt_le, kt_eq, kt_c0, kt_c1, kt_c2, kt_c3, kt_c4, kt_c8, kt_c9, kt_cm1, kt_c81, kt_c40, kt_c7, kt_c5, kt_c6, kt_c512, kt_c10, kt_c10000] at d_8
    refine lv_aload_n hx hb dX7_deepOf_15 rfl (lv_at hl 1 rfl) ?_
    refine va_get (D := D) (ci := 7) (C := RX7) (T := TX7) (N := 15) hx hb hts iw_X7_deepOf_X7 hown hK hP 0 rfl rfl 8 (by decide) (hts (.fieldLink RX7 41 "KingTable$Solver" "deeps" "[I") (List.mem_cons_of_mem _ (List.mem_append_left _ (List.mem_append_left _ (List.mem_append_left _ (List.mem_append_left _ (List.Mem.head _))))))) (fun _ h9 => h9) rfl dX7_deepOf_16 ?_
    refine lv_iload_n hx hb dX7_deepOf_19 rfl (lv_at hl 0 rfl) ?_
    have hi_1 : vp_in r_2 LW := by exact kt_in (by omega) (by omega)
    refine va_iald hx hb hK hP 6 0 rfl rfl hi_1 dX7_deepOf_20 ?_
    refine lv_topi (fun a_20 ea_20 => ?_)
    exact kt_ri () hx hb hr hlk hS dX7_deepOf_21 hP hD (by show True; trivial)
  · have d_8 := c_8
    simp only [kt_lt, kt_le, kt_eq, kt_c0, kt_c1, kt_c2, kt_c3, kt_c4, kt_c8, kt_c9, kt_cm1, kt_c81, kt_c40, kt_c7, kt_c5, kt_c6, kt_c512, kt_c10, kt_c10000] at d_8
    refine lv_iconst (v := (-1)) hx hb dX7_deepOf_11 (by decide) ?_
    refine lv_goto (tgt := 21) hx hb dX7_deepOf_12 (by decide) ?_
    exact kt_ri () hx hb hr hlk hS dX7_deepOf_21 hP hD (by show True; trivial)

theorem iw_X7_tally_X7 : ∀ w ∈ wsX70, w ∈ wsX7_tally := fun _ h => kt_wp_X7_tally__X70 h
set_option maxHeartbeats 4000000 in
set_option maxRecDepth 100000 in
theorem c_X7_tally (l : Launch) (D : va_G) (cI cZ cB : ClassId) (sz : Nat) (so : Nat) (ru : Nat) (tr : Nat) (lk : Nat) (vp : Nat) (vd : Nat) (vt : Nat) (vg : Nat) (vw : Nat) (ve : Nat) (vo : Nat) (vq : Nat) (qd : Int32) (pp : Int32) (ct : Int32) (sv : Int32) (ta : Nat → Int32) (p1 : Int32) (p2 : Int32) : kt_Mi l yX7_tally wsX7_tally { frames := 1, cells := 0, slots := 0, locals := 20 } D (kt_ty cI cZ cB) [.ref so, .int p1, .int p2] sz [(so, .inr (7, [.ref ru, .ref tr, .ref lk, .ref vp, .ref vd, .ref vt, .ref vg, .ref vw, .ref ve, .ref vo, .ref vq, .int qd, .int pp, .int ct, .int sv])), (vt, .inl (cI, 6, .inl ta))] (fun (r : Int32) (u : Unit) => True) (fun (u : Unit) => [(so, .inr (7, [.ref ru, .ref tr, .ref lk, .ref vp, .ref vd, .ref vt, .ref vg, .ref vw, .ref ve, .ref vo, .ref vq, .int qd, .int pp, .int ct, .int sv])), (vt, .inl (cI, 6, .inl ta))]) 0 0 := by
  refine kt_Mi.of (cc := cX7_tally) (maxL := 3) (ret := some .int) (by decide) rfl (Nat.le_of_ble_eq_true rfl) ?_
  intro p e s m below meth c A ls H hAt hP hD hS hl
  obtain ⟨hx, hb, hr, hml, hown, hts, hN, hK, hlk, hnm, hA⟩ := hAt
  have hl : lv_has ls 3 [(0, .ref so), (1, .int p1), (2, .int p2)] := hl
  have hown : s.vm.findClass RX7 = some m.cls := hown
  refine lv_aload_n hx hb dX7_tally_0 rfl (lv_at hl 0 rfl) ?_
  refine va_get (D := D) (ci := 7) (C := RX7) (T := TX7) (N := 15) hx hb hts iw_X7_tally_X7 hown hK hP 0 rfl rfl 14 (by decide) (hts (.fieldLink RX7 54 "KingTable$Solver" "solved" "Z") (List.mem_cons_of_mem _ (List.mem_append_left _ (List.Mem.head _)))) (fun _ h9 => h9) rfl dX7_tally_1 ?_
  refine lv_if_eq (tgt := 23) hx hb dX7_tally_4 (by decide) (fun c_4 => ?_) (fun c_4 => ?_)
  · have d_4 := c_4
    simp only [kt_lt, kt_le, kt_eq, kt_c0, kt_c1, kt_c2, kt_c3, kt_c4, kt_c8, kt_c9, kt_cm1, kt_c81, kt_c40, kt_c7, kt_c5, kt_c6, kt_c512, kt_c10, kt_c10000] at d_4
    refine lv_iconst (v := (-1)) hx hb dX7_tally_23 (by decide) ?_
    exact kt_ri () hx hb hr hlk hS dX7_tally_24 hP hD (by show True; trivial)
  · have d_4 := c_4
    simp only [kt_lt, kt_le, kt_eq, kt_c0, kt_c1, kt_c2, kt_c3, kt_c4, kt_c8, kt_c9, kt_cm1, kt_c81, kt_c40, kt_c7, kt_c5, kt_c6, kt_c512, kt_c10, kt_c10000] at d_4
    refine lv_iload_n hx hb dX7_tally_7 rfl (lv_at hl 1 rfl) ?_
    refine lv_if_lt (tgt := 23) hx hb dX7_tally_8 (by decide) (fun c_8 => ?_) (fun c_8 => ?_)
    · have d_8 := c_8
      simp only [kt_lt, kt_le, kt_eq, kt_c0, kt_c1, kt_c2, kt_c3, kt_c4, kt_c8, kt_c9, kt_cm1, kt_c81, kt_c40, kt_c7, kt_c5, kt_c6, kt_c512, kt_c10, kt_c10000] at d_8
      refine lv_iconst (v := (-1)) hx hb dX7_tally_23 (by decide) ?_
      exact kt_ri () hx hb hr hlk hS dX7_tally_24 hP hD (by show True; trivial)
    · have d_8 := c_8
      simp only [kt_lt, kt_le, kt_eq, kt_c0, kt_c1, kt_c2, kt_c3, kt_c4, kt_c8, kt_c9, kt_cm1, kt_c81, kt_c40, kt_c7, kt_c5, kt_c6, kt_c512, kt_c10, kt_c10000] at d_8
      refine lv_iload_n hx hb dX7_tally_11 rfl (lv_at hl 1 rfl) ?_
      refine lv_iconst (v := 3) hx hb dX7_tally_12 (by decide) ?_
      refine lv_icmp_ge (tgt := 23) hx hb dX7_tally_13 (by decide) (fun c_13 => ?_) (fun c_13 => ?_)
      · have d_13 := c_13
        simp only [kt_lt, kt_le, kt_eq, kt_c0, kt_c1, kt_c2, kt_c3, kt_c4, kt_c8, kt_c9, kt_cm1, kt_c81, kt_c40, kt_c7, kt_c5, kt_c6, kt_c512, kt_c10, kt_c10000] at d_13
        refine lv_iconst (v := (-1)) hx hb dX7_tally_23 (by decide) ?_
        exact kt_ri () hx hb hr hlk hS dX7_tally_24 hP hD (by show True; trivial)
      · have d_13 := c_13
        simp only [kt_lt, kt_le, kt_eq, kt_c0, kt_c1, kt_c2, kt_c3, kt_c4, kt_c8, kt_c9, kt_cm1, kt_c81, kt_c40, kt_c7, kt_c5, kt_c6, kt_c512, kt_c10, kt_c10000] at d_13
        refine lv_iload_n hx hb dX7_tally_16 rfl (lv_at hl 2 rfl) ?_
        refine kt_pi (wc := []) [] hP hD hS hA rfl (by decide) (fun hPc hDc => va_runSN (As := [.int p2]) (rest := []) ⟨hx, hb, hml, hown, hts⟩ (c_X10_isSide l D cI cZ cB H.size p2 ) ⟨va_cnB 1 hts gX7_tally_X10_isSide_n213 rfl rfl rfl (hN (.methodLinkNest "KingTable$Solver" 213 yX10_isSide "KingTable") (by decide +kernel)) (hts (.initialized RX10) (List.mem_cons_of_mem _ (List.mem_append_left _ (List.mem_cons_of_mem _ (List.mem_cons_of_mem _ (List.mem_cons_of_mem _ (List.Mem.head _))))))) (by decide +kernel) ⟨Nat.le_of_ble_eq_true rfl, Nat.le_of_ble_eq_true rfl⟩, (hts (.static yX10_isSide) (List.mem_cons_of_mem _ (List.mem_append_left _ (List.mem_cons_of_mem _ (List.mem_cons_of_mem _ (List.Mem.head _)))))), trivial⟩ (kt_preS hN hK hPc hDc) rfl rfl hl.1 rfl (lv_room (Nat.le_of_ble_eq_true rfl)) dX7_tally_17 ⟨Nat.le_of_ble_eq_true rfl, Nat.le_of_ble_eq_true rfl⟩) (fun r_17 _ H locs hw_17 hP hS => ?_)
        refine lv_if_ne (tgt := 25) hx hb dX7_tally_20 (by decide) (fun c_20 => ?_) (fun c_20 => ?_)
        · have d_20 := c_20
          simp only [kt_lt, kt_le, kt_eq, kt_c0, kt_c1, kt_c2, kt_c3, kt_c4, kt_c8, kt_c9, kt_cm1, kt_c81, kt_c40, kt_c7, kt_c5, kt_c6, kt_c512, kt_c10, kt_c10000] at d_20
          have hq1 := hw_17.t c_20
          refine lv_aload_n hx hb dX7_tally_25 rfl (lv_at hl 0 rfl) ?_
          refine va_get (D := D) (ci := 7) (C := RX7) (T := TX7) (N := 15) hx hb hts iw_X7_tally_X7 hown hK hP 0 rfl rfl 5 (by decide) (hts (.fieldLink RX7 32 "KingTable$Solver" "tallies" "[I") (List.mem_cons_of_mem _ (List.mem_append_left _ (List.mem_cons_of_mem _ (List.Mem.head _))))) (fun _ h9 => h9) rfl dX7_tally_26 ?_
          refine lv_iload_n hx hb dX7_tally_29 rfl (lv_at hl 1 rfl) ?_
          refine lv_iconst (v := 2) hx hb dX7_tally_30 (by decide) ?_
          refine lv_imul hx hb dX7_tally_31 ?_
          refine lv_topi (fun t_31 et_31 => ?_)
          obtain ⟨k_31, hk_31, hm_31, hM_31⟩ := kt_mulk (C := 2) et_31 (by decide)
          try simp only [kt_c0, kt_c1, kt_c2, kt_c3, kt_c4, kt_c8, kt_c9, kt_cm1, kt_c81, kt_c40, kt_c7, kt_c5, kt_c6, kt_c512, kt_c10, kt_c10000] at hk_31
          refine lv_iload_n hx hb dX7_tally_32 rfl (lv_at hl 2 rfl) ?_
          refine lv_iadd hx hb dX7_tally_33 ?_
          refine lv_topi (fun t_33 et_33 => ?_)
          obtain ⟨k_33, hk_33, hm_33, hM_33⟩ := kt_addk et_33
          have hi_1 : vp_in t_33 6 := by exact kt_in (by omega) (by omega)
          refine va_iald hx hb hK hP 1 0 rfl rfl hi_1 dX7_tally_34 ?_
          refine lv_topi (fun a_34 ea_34 => ?_)
          exact kt_ri () hx hb hr hlk hS dX7_tally_35 hP hD (by show True; trivial)
        · have d_20 := c_20
          simp only [kt_lt, kt_le, kt_eq, kt_c0, kt_c1, kt_c2, kt_c3, kt_c4, kt_c8, kt_c9, kt_cm1, kt_c81, kt_c40, kt_c7, kt_c5, kt_c6, kt_c512, kt_c10, kt_c10000] at d_20
          refine lv_iconst (v := (-1)) hx hb dX7_tally_23 (by decide) ?_
          exact kt_ri () hx hb hr hlk hS dX7_tally_24 hP hD (by show True; trivial)

theorem iw_X7_greatestDeep_X7 : ∀ w ∈ wsX70, w ∈ wsX7_greatestDeep := fun _ h => kt_wp_X7_greatestDeep__X70 h
set_option maxHeartbeats 4000000 in
set_option maxRecDepth 100000 in
theorem c_X7_greatestDeep (l : Launch) (D : va_G) (cI cZ cB : ClassId) (sz : Nat) (so : Nat) (ru : Nat) (tr : Nat) (lk : Nat) (vp : Nat) (vd : Nat) (vt : Nat) (vg : Nat) (vw : Nat) (ve : Nat) (vo : Nat) (vq : Nat) (qd : Int32) (pp : Int32) (ct : Int32) (sv : Int32) (ga : Nat → Int32) (p1 : Int32) : kt_Mi l yX7_greatestDeep wsX7_greatestDeep { frames := 1, cells := 0, slots := 0, locals := 20 } D (kt_ty cI cZ cB) [.ref so, .int p1] sz [(so, .inr (7, [.ref ru, .ref tr, .ref lk, .ref vp, .ref vd, .ref vt, .ref vg, .ref vw, .ref ve, .ref vo, .ref vq, .int qd, .int pp, .int ct, .int sv])), (vg, .inl (cI, 2, .inl ga))] (fun (r : Int32) (u : Unit) => True) (fun (u : Unit) => [(so, .inr (7, [.ref ru, .ref tr, .ref lk, .ref vp, .ref vd, .ref vt, .ref vg, .ref vw, .ref ve, .ref vo, .ref vq, .int qd, .int pp, .int ct, .int sv])), (vg, .inl (cI, 2, .inl ga))]) 0 0 := by
  refine kt_Mi.of (cc := cX7_greatestDeep) (maxL := 2) (ret := some .int) (by decide) rfl (Nat.le_of_ble_eq_true rfl) ?_
  intro p e s m below meth c A ls H hAt hP hD hS hl
  obtain ⟨hx, hb, hr, hml, hown, hts, hN, hK, hlk, hnm, hA⟩ := hAt
  have hl : lv_has ls 2 [(0, .ref so), (1, .int p1)] := hl
  have hown : s.vm.findClass RX7 = some m.cls := hown
  refine lv_aload_n hx hb dX7_greatestDeep_0 rfl (lv_at hl 0 rfl) ?_
  refine va_get (D := D) (ci := 7) (C := RX7) (T := TX7) (N := 15) hx hb hts iw_X7_greatestDeep_X7 hown hK hP 0 rfl rfl 14 (by decide) (hts (.fieldLink RX7 54 "KingTable$Solver" "solved" "Z") (List.mem_cons_of_mem _ (List.mem_append_left _ (List.Mem.head _)))) (fun _ h9 => h9) rfl dX7_greatestDeep_1 ?_
  refine lv_if_eq (tgt := 23) hx hb dX7_greatestDeep_4 (by decide) (fun c_4 => ?_) (fun c_4 => ?_)
  · have d_4 := c_4
    simp only [kt_lt, kt_le, kt_eq, kt_c0, kt_c1, kt_c2, kt_c3, kt_c4, kt_c8, kt_c9, kt_cm1, kt_c81, kt_c40, kt_c7, kt_c5, kt_c6, kt_c512, kt_c10, kt_c10000] at d_4
    refine lv_iconst (v := (-1)) hx hb dX7_greatestDeep_23 (by decide) ?_
    exact kt_ri () hx hb hr hlk hS dX7_greatestDeep_24 hP hD (by show True; trivial)
  · have d_4 := c_4
    simp only [kt_lt, kt_le, kt_eq, kt_c0, kt_c1, kt_c2, kt_c3, kt_c4, kt_c8, kt_c9, kt_cm1, kt_c81, kt_c40, kt_c7, kt_c5, kt_c6, kt_c512, kt_c10, kt_c10000] at d_4
    refine lv_iload_n hx hb dX7_greatestDeep_7 rfl (lv_at hl 1 rfl) ?_
    refine kt_pi (wc := []) [] hP hD hS hA rfl (by decide) (fun hPc hDc => va_runSN (As := [.int p1]) (rest := []) ⟨hx, hb, hml, hown, hts⟩ (c_X10_isSide l D cI cZ cB H.size p1 ) ⟨va_cnB 1 hts gX7_greatestDeep_X10_isSide_n213 rfl rfl rfl (hN (.methodLinkNest "KingTable$Solver" 213 yX10_isSide "KingTable") (by decide +kernel)) (hts (.initialized RX10) (List.mem_cons_of_mem _ (List.mem_append_left _ (List.mem_cons_of_mem _ (List.mem_cons_of_mem _ (List.mem_cons_of_mem _ (List.Mem.head _))))))) (by decide +kernel) ⟨Nat.le_of_ble_eq_true rfl, Nat.le_of_ble_eq_true rfl⟩, (hts (.static yX10_isSide) (List.mem_cons_of_mem _ (List.mem_append_left _ (List.mem_cons_of_mem _ (List.mem_cons_of_mem _ (List.Mem.head _)))))), trivial⟩ (kt_preS hN hK hPc hDc) rfl rfl hl.1 rfl (lv_room (Nat.le_of_ble_eq_true rfl)) dX7_greatestDeep_8 ⟨Nat.le_of_ble_eq_true rfl, Nat.le_of_ble_eq_true rfl⟩) (fun r_8 _ H locs hw_8 hP hS => ?_)
    refine lv_if_eq (tgt := 23) hx hb dX7_greatestDeep_11 (by decide) (fun c_11 => ?_) (fun c_11 => ?_)
    · have d_11 := c_11
      simp only [kt_lt, kt_le, kt_eq, kt_c0, kt_c1, kt_c2, kt_c3, kt_c4, kt_c8, kt_c9, kt_cm1, kt_c81, kt_c40, kt_c7, kt_c5, kt_c6, kt_c512, kt_c10, kt_c10000] at d_11
      refine lv_iconst (v := (-1)) hx hb dX7_greatestDeep_23 (by decide) ?_
      exact kt_ri () hx hb hr hlk hS dX7_greatestDeep_24 hP hD (by show True; trivial)
    · have d_11 := c_11
      simp only [kt_lt, kt_le, kt_eq, kt_c0, kt_c1, kt_c2, kt_c3, kt_c4, kt_c8, kt_c9, kt_cm1, kt_c81, kt_c40, kt_c7, kt_c5, kt_c6, kt_c512, kt_c10, kt_c10000] at d_11
      have hq1 := hw_8.t c_11
      refine lv_aload_n hx hb dX7_greatestDeep_14 rfl (lv_at hl 0 rfl) ?_
      refine va_get (D := D) (ci := 7) (C := RX7) (T := TX7) (N := 15) hx hb hts iw_X7_greatestDeep_X7 hown hK hP 0 rfl rfl 6 (by decide) (hts (.fieldLink RX7 35 "KingTable$Solver" "greatest" "[I") (List.mem_cons_of_mem _ (List.mem_append_left _ (List.mem_cons_of_mem _ (List.Mem.head _))))) (fun _ h9 => h9) rfl dX7_greatestDeep_15 ?_
      refine lv_iload_n hx hb dX7_greatestDeep_18 rfl (lv_at hl 1 rfl) ?_
      have hi_1 : vp_in p1 2 := by exact kt_in (by omega) (by omega)
      refine va_iald hx hb hK hP 1 0 rfl rfl hi_1 dX7_greatestDeep_19 ?_
      refine lv_topi (fun a_19 ea_19 => ?_)
      refine lv_goto (tgt := 24) hx hb dX7_greatestDeep_20 (by decide) ?_
      exact kt_ri () hx hb hr hlk hS dX7_greatestDeep_24 hP hD (by show True; trivial)

theorem iw_X7_worthAt_X7 : ∀ w ∈ wsX70, w ∈ wsX7_worthAt := fun _ h => kt_wp_X7_worthAt__X70 h
set_option maxHeartbeats 4000000 in
set_option maxRecDepth 100000 in
theorem c_X7_worthAt (l : Launch) (D : va_G) (cI cZ cB : ClassId) (sz : Nat) (so : Nat) (ru : Nat) (tr : Nat) (lk : Nat) (vp : Nat) (vd : Nat) (vt : Nat) (vg : Nat) (vw : Nat) (ve : Nat) (vo : Nat) (vq : Nat) (qd : Int32) (pp : Int32) (ct : Int32) (sv : Int32) (LW : Nat) (LH : Nat) (LS : Nat) (LQ : Nat) (wo : Nat → Int32) (p1 : Int32) (p2 : Int32) (hlw : LW ≤ 10000) (hlh : LH ≤ 10000) (hls : LS ≤ 4000000) (hlq : LQ ≤ LW ∧ LQ ≤ LH) (hpp : 0 ≤ pp.toInt ∧ 2 * pp.toInt ≤ (LQ : Int)) : kt_Mi l yX7_worthAt wsX7_worthAt { frames := 1, cells := 0, slots := 0, locals := 20 } D (kt_ty cI cZ cB) [.ref so, .int p1, .int p2] sz [(so, .inr (7, [.ref ru, .ref tr, .ref lk, .ref vp, .ref vd, .ref vt, .ref vg, .ref vw, .ref ve, .ref vo, .ref vq, .int qd, .int pp, .int ct, .int sv])), (vw, .inl (cI, LW, .inl wo))] (fun (r : Int32) (u : Unit) => True) (fun (u : Unit) => [(so, .inr (7, [.ref ru, .ref tr, .ref lk, .ref vp, .ref vd, .ref vt, .ref vg, .ref vw, .ref ve, .ref vo, .ref vq, .int qd, .int pp, .int ct, .int sv])), (vw, .inl (cI, LW, .inl wo))]) 0 0 := by
  refine kt_Mi.of (cc := cX7_worthAt) (maxL := 4) (ret := some .int) (by decide) rfl (Nat.le_of_ble_eq_true rfl) ?_
  intro p e s m below meth c A ls H hAt hP hD hS hl
  obtain ⟨hx, hb, hr, hml, hown, hts, hN, hK, hlk, hnm, hA⟩ := hAt
  have hl : lv_has ls 4 [(0, .ref so), (1, .int p1), (2, .int p2)] := hl
  have hown : s.vm.findClass RX7 = some m.cls := hown
  refine lv_aload_n hx hb dX7_worthAt_0 rfl (lv_at hl 0 rfl) ?_
  refine va_get (D := D) (ci := 7) (C := RX7) (T := TX7) (N := 15) hx hb hts iw_X7_worthAt_X7 hown hK hP 0 rfl rfl 14 (by decide) (hts (.fieldLink RX7 54 "KingTable$Solver" "solved" "Z") (List.mem_cons_of_mem _ (List.mem_append_left _ (List.Mem.head _)))) (fun _ h9 => h9) rfl dX7_worthAt_1 ?_
  refine lv_if_eq (tgt := 30) hx hb dX7_worthAt_4 (by decide) (fun c_4 => ?_) (fun c_4 => ?_)
  · have d_4 := c_4
    simp only [kt_lt, kt_le, kt_eq, kt_c0, kt_c1, kt_c2, kt_c3, kt_c4, kt_c8, kt_c9, kt_cm1, kt_c81, kt_c40, kt_c7, kt_c5, kt_c6, kt_c512, kt_c10, kt_c10000] at d_4
    refine lv_iconst (v := 0) hx hb dX7_worthAt_30 (by decide) ?_
    refine lv_istore_n (lv' := [(3, .int 0), (0, .ref so), (1, .int p1), (2, .int p2)]) hx hb dX7_worthAt_31 rfl hl (by decide) rfl (fun ls hl => ?_)
    refine lv_iload_n hx hb dX7_worthAt_32 rfl (lv_at hl 0 rfl) ?_
    refine lv_if_eq (tgt := 49) hx hb dX7_worthAt_33 (by decide) (fun c_33 => ?_) (fun c_33 => absurd c_33 (by decide))
    refine lv_iconst (v := (-1)) hx hb dX7_worthAt_49 (by decide) ?_
    exact kt_ri () hx hb hr hlk hS dX7_worthAt_50 hP hD (by show True; trivial)
  · have d_4 := c_4
    simp only [kt_lt, kt_le, kt_eq, kt_c0, kt_c1, kt_c2, kt_c3, kt_c4, kt_c8, kt_c9, kt_cm1, kt_c81, kt_c40, kt_c7, kt_c5, kt_c6, kt_c512, kt_c10, kt_c10000] at d_4
    refine lv_iload_n hx hb dX7_worthAt_7 rfl (lv_at hl 2 rfl) ?_
    refine kt_pi (wc := []) [] hP hD hS hA rfl (by decide) (fun hPc hDc => va_runSN (As := [.int p2]) (rest := []) ⟨hx, hb, hml, hown, hts⟩ (c_X10_isSide l D cI cZ cB H.size p2 ) ⟨va_cnB 1 hts gX7_worthAt_X10_isSide_n213 rfl rfl rfl (hN (.methodLinkNest "KingTable$Solver" 213 yX10_isSide "KingTable") (by decide +kernel)) (hts (.initialized RX10) (List.mem_cons_of_mem _ (List.mem_append_left _ (List.mem_cons_of_mem _ (List.mem_cons_of_mem _ (List.mem_cons_of_mem _ (List.mem_cons_of_mem _ (List.Mem.head _)))))))) (by decide +kernel) ⟨Nat.le_of_ble_eq_true rfl, Nat.le_of_ble_eq_true rfl⟩, (hts (.static yX10_isSide) (List.mem_cons_of_mem _ (List.mem_append_left _ (List.mem_cons_of_mem _ (List.mem_cons_of_mem _ (List.mem_cons_of_mem _ (List.Mem.head _))))))), trivial⟩ (kt_preS hN hK hPc hDc) rfl rfl hl.1 rfl (lv_room (Nat.le_of_ble_eq_true rfl)) dX7_worthAt_8 ⟨Nat.le_of_ble_eq_true rfl, Nat.le_of_ble_eq_true rfl⟩) (fun r_8 _ H locs hw_8 hP hS => ?_)
    refine lv_if_eq (tgt := 30) hx hb dX7_worthAt_11 (by decide) (fun c_11 => ?_) (fun c_11 => ?_)
    · have d_11 := c_11
      simp only [kt_lt, kt_le, kt_eq, kt_c0, kt_c1, kt_c2, kt_c3, kt_c4, kt_c8, kt_c9, kt_cm1, kt_c81, kt_c40, kt_c7, kt_c5, kt_c6, kt_c512, kt_c10, kt_c10000] at d_11
      refine lv_iconst (v := 0) hx hb dX7_worthAt_30 (by decide) ?_
      refine lv_istore_n (lv' := [(3, .int 0), (0, .ref so), (1, .int p1), (2, .int p2)]) hx hb dX7_worthAt_31 rfl hl (by decide) rfl (fun ls hl => ?_)
      refine lv_iload_n hx hb dX7_worthAt_32 rfl (lv_at hl 0 rfl) ?_
      refine lv_if_eq (tgt := 49) hx hb dX7_worthAt_33 (by decide) (fun c_33 => ?_) (fun c_33 => absurd c_33 (by decide))
      refine lv_iconst (v := (-1)) hx hb dX7_worthAt_49 (by decide) ?_
      exact kt_ri () hx hb hr hlk hS dX7_worthAt_50 hP hD (by show True; trivial)
    · have d_11 := c_11
      simp only [kt_lt, kt_le, kt_eq, kt_c0, kt_c1, kt_c2, kt_c3, kt_c4, kt_c8, kt_c9, kt_cm1, kt_c81, kt_c40, kt_c7, kt_c5, kt_c6, kt_c512, kt_c10, kt_c10000] at d_11
      have hq1 := hw_8.t c_11
      refine lv_iload_n hx hb dX7_worthAt_14 rfl (lv_at hl 1 rfl) ?_
      refine lv_if_lt (tgt := 30) hx hb dX7_worthAt_15 (by decide) (fun c_15 => ?_) (fun c_15 => ?_)
      · have d_15 := c_15
        simp only [kt_lt, kt_le, kt_eq, kt_c0, kt_c1, kt_c2, kt_c3, kt_c4, kt_c8, kt_c9, kt_cm1, kt_c81, kt_c40, kt_c7, kt_c5, kt_c6, kt_c512, kt_c10, kt_c10000] at d_15
        refine lv_iconst (v := 0) hx hb dX7_worthAt_30 (by decide) ?_
        refine lv_istore_n (lv' := [(3, .int 0), (0, .ref so), (1, .int p1), (2, .int p2)]) hx hb dX7_worthAt_31 rfl hl (by decide) rfl (fun ls hl => ?_)
        refine lv_iload_n hx hb dX7_worthAt_32 rfl (lv_at hl 0 rfl) ?_
        refine lv_if_eq (tgt := 49) hx hb dX7_worthAt_33 (by decide) (fun c_33 => ?_) (fun c_33 => absurd c_33 (by decide))
        refine lv_iconst (v := (-1)) hx hb dX7_worthAt_49 (by decide) ?_
        exact kt_ri () hx hb hr hlk hS dX7_worthAt_50 hP hD (by show True; trivial)
      · have d_15 := c_15
        simp only [kt_lt, kt_le, kt_eq, kt_c0, kt_c1, kt_c2, kt_c3, kt_c4, kt_c8, kt_c9, kt_cm1, kt_c81, kt_c40, kt_c7, kt_c5, kt_c6, kt_c512, kt_c10, kt_c10000] at d_15
        refine lv_iload_n hx hb dX7_worthAt_18 rfl (lv_at hl 1 rfl) ?_
        refine lv_aload_n hx hb dX7_worthAt_19 rfl (lv_at hl 0 rfl) ?_
        refine va_get (D := D) (ci := 7) (C := RX7) (T := TX7) (N := 15) hx hb hts iw_X7_worthAt_X7 hown hK hP 0 rfl rfl 12 (by decide) (hts (.fieldLink RX7 66 "KingTable$Solver" "places" "I") (List.mem_cons_of_mem _ (List.mem_append_left _ (List.mem_cons_of_mem _ (List.Mem.head _))))) (fun _ h9 => h9) rfl dX7_worthAt_20 ?_
        refine lv_icmp_ge (tgt := 30) hx hb dX7_worthAt_23 (by decide) (fun c_23 => ?_) (fun c_23 => ?_)
        · have d_23 := c_23
          simp only [kt_lt, kt_le, kt_eq, kt_c0, kt_c1, kt_c2, kt_c3, kt_c4, kt_c8, kt_c9, kt_cm1, kt_c81, kt_c40, kt_c7, kt_c5, kt_c6, kt_c512, kt_c10, kt_c10000] at d_23
          refine lv_iconst (v := 0) hx hb dX7_worthAt_30 (by decide) ?_
          refine lv_istore_n (lv' := [(3, .int 0), (0, .ref so), (1, .int p1), (2, .int p2)]) hx hb dX7_worthAt_31 rfl hl (by decide) rfl (fun ls hl => ?_)
          refine lv_iload_n hx hb dX7_worthAt_32 rfl (lv_at hl 0 rfl) ?_
          refine lv_if_eq (tgt := 49) hx hb dX7_worthAt_33 (by decide) (fun c_33 => ?_) (fun c_33 => absurd c_33 (by decide))
          refine lv_iconst (v := (-1)) hx hb dX7_worthAt_49 (by decide) ?_
          exact kt_ri () hx hb hr hlk hS dX7_worthAt_50 hP hD (by show True; trivial)
        · have d_23 := c_23
          simp only [kt_lt, kt_le, kt_eq, kt_c0, kt_c1, kt_c2, kt_c3, kt_c4, kt_c8, kt_c9, kt_cm1, kt_c81, kt_c40, kt_c7, kt_c5, kt_c6, kt_c512, kt_c10, kt_c10000] at d_23
          refine lv_iconst (v := 1) hx hb dX7_worthAt_26 (by decide) ?_
          refine lv_goto (tgt := 31) hx hb dX7_worthAt_27 (by decide) ?_
          refine lv_istore_n (lv' := [(3, .int 1), (0, .ref so), (1, .int p1), (2, .int p2)]) hx hb dX7_worthAt_31 rfl hl (by decide) rfl (fun ls hl => ?_)
          refine lv_iload_n hx hb dX7_worthAt_32 rfl (lv_at hl 0 rfl) ?_
          refine lv_if_eq (tgt := 49) hx hb dX7_worthAt_33 (by decide) (fun c_33 => absurd c_33 (by decide)) (fun c_33 => ?_)
          refine lv_aload_n hx hb dX7_worthAt_36 rfl (lv_at hl 1 rfl) ?_
          refine va_get (D := D) (ci := 7) (C := RX7) (T := TX7) (N := 15) hx hb hts iw_X7_worthAt_X7 hown hK hP 0 rfl rfl 7 (by decide) (hts (.fieldLink RX7 38 "KingTable$Solver" "worths" "[I") (List.mem_cons_of_mem _ (List.mem_append_left _ (List.mem_cons_of_mem _ (List.mem_cons_of_mem _ (List.Mem.head _)))))) (fun _ h9 => h9) rfl dX7_worthAt_37 ?_
          refine lv_iconst (v := 2) hx hb dX7_worthAt_40 (by decide) ?_
          refine lv_iload_n hx hb dX7_worthAt_41 rfl (lv_at hl 2 rfl) ?_
          refine lv_imul hx hb dX7_worthAt_42 ?_
          refine lv_topi (fun t_42 et_42 => ?_)
          obtain ⟨k_42, hk_42, hm_42, hM_42⟩ := kt_mulk (C := 2) (et_42.trans (Int32.mul_comm _ _)) (by decide)
          try simp only [kt_c0, kt_c1, kt_c2, kt_c3, kt_c4, kt_c8, kt_c9, kt_cm1, kt_c81, kt_c40, kt_c7, kt_c5, kt_c6, kt_c512, kt_c10, kt_c10000] at hk_42
          refine lv_iload_n hx hb dX7_worthAt_43 rfl (lv_at hl 3 rfl) ?_
          refine lv_iadd hx hb dX7_worthAt_44 ?_
          refine lv_topi (fun t_44 et_44 => ?_)
          obtain ⟨k_44, hk_44, hm_44, hM_44⟩ := kt_addk et_44
          have hi_1 : vp_in t_44 LW := by exact kt_in (by omega) (by omega)
          refine va_iald hx hb hK hP 1 0 rfl rfl hi_1 dX7_worthAt_45 ?_
          refine lv_topi (fun a_45 ea_45 => ?_)
          refine lv_goto (tgt := 50) hx hb dX7_worthAt_46 (by decide) ?_
          exact kt_ri () hx hb hr hlk hS dX7_worthAt_50 hP hD (by show True; trivial)
