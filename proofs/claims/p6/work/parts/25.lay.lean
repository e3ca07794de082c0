theorem iw_X0_lay_X0 : ∀ w ∈ wsX00, w ∈ wsX0_lay := fun _ h => kt_wp_X0_lay__X00 h
theorem iw_X0_lay_X9 : ∀ w ∈ wsX90, w ∈ wsX0_lay := fun _ h => kt_wp_X0_lay__X90 h
set_option maxHeartbeats 4000000 in
set_option maxRecDepth 100000 in
theorem c_X0_lay (l : Launch) (D : va_G) (cI cZ cB : ClassId) (sz : Nat) (gr : Nat) (gt : Nat) (gg : Nat) (gn : Nat) (gs : Int32) (gm : Int32) (tg : Nat → Int32) (gl : Nat → Int32) (nb : Nat → Int32) (to : Nat) (sg : Nat) (ln : Int32) (wd : Int32) (fg : Nat → Int32) (p2 : Int32) (hln : 2 ≤ ln.toInt ∧ ln.toInt ≤ 9) (hwd : 2 ≤ wd.toInt ∧ wd.toInt ≤ 9) (hfg : kt_r fg 81 0 7) (hgt : kt_r tg 81 0 2) (hgg : kt_r gl 81 0 1) (hnb : kt_r nb 324 (-1) 80) : kt_Mv l yX0_lay wsX0_lay { frames := 1, cells := 0, slots := 0, locals := 20 } D (kt_ty cI cZ cB) [.ref gr, .ref to, .int p2] sz [(gr, .inr (0, [.ref gt, .ref gg, .ref gn, .int gs, .int gm])), (gt, .inl (cI, 81, .inl tg)), (gg, .inl (cZ, 81, .inl gl)), (gn, .inl (cI, 324, .inl nb)), (to, .inr (9, [.ref sg, .int ln, .int wd])), (sg, .inl (cI, 81, .inl fg))] (fun (u : (Nat → Int32) × (Nat → Int32) × (Nat → Int32) × Int32 × Int32) => (kt_r u.1 81 0 2 ∧ kt_r u.2.1 81 0 1 ∧ kt_r u.2.2.1 324 (-1) 80) ∧ (4 ≤ u.2.2.2.1.toInt ∧ u.2.2.2.1.toInt ≤ 81 ∧ u.2.2.2.1.toInt = ln.toInt * wd.toInt) ∧ (2 ≤ u.2.2.2.2.toInt ∧ u.2.2.2.2.toInt ≤ 16 ∧ u.2.2.2.2.toInt = ln.toInt + wd.toInt - 2)) (fun (u : (Nat → Int32) × (Nat → Int32) × (Nat → Int32) × Int32 × Int32) => [(gr, .inr (0, [.ref gt, .ref gg, .ref gn, .int u.2.2.2.1, .int u.2.2.2.2])), (gt, .inl (cI, 81, .inl u.1)), (gg, .inl (cZ, 81, .inl u.2.1)), (gn, .inl (cI, 324, .inl u.2.2.1)), (to, .inr (9, [.ref sg, .int ln, .int wd])), (sg, .inl (cI, 81, .inl fg))]) 0 0 := by
  refine kt_Mv.of (cc := cX0_lay) (maxL := 7) (ret := none) (by decide) rfl (Nat.le_of_ble_eq_true rfl) ?_
  intro p e s m below meth c A ls H hAt hP hD hS hl
  obtain ⟨hx, hb, hr, hml, hown, hts, hN, hK, hlk, hnm, hA⟩ := hAt
  have hl : lv_has ls 7 [(0, .ref gr), (1, .ref to), (2, .int p2)] := hl
  have hown : s.vm.findClass RX0 = some m.cls := hown
  refine lv_aload_n hx hb dX0_lay_0 rfl (lv_at hl 0 rfl) ?_
  refine lv_aload_n hx hb dX0_lay_1 rfl (lv_at hl 1 rfl) ?_
  refine kt_pi (wc := [(to, .inr (9, [.ref sg, .int ln, .int wd]))]) [4] hP hD hS hA rfl (by decide) (fun hPc hDc => va_runV (As := []) (rest := [.ref gr]) ⟨hx, hb, hml, hown, hts⟩ (c_X9_size l D cI cZ cB H.size to sg ln wd (by first | assumption | omega | rfl | decide) (by first | assumption | omega | rfl | decide)) (cwV 0 hts gX0_lay_X9_size rfl rfl rfl (by decide +kernel) ⟨Nat.le_of_ble_eq_true rfl, Nat.le_of_ble_eq_true rfl⟩) (kt_preV hN hK hPc hDc 0 (ci := 9) (q := (RX9, TX9, 3)) rfl rfl) rfl rfl hl.1 rfl (lv_room (Nat.le_of_ble_eq_true rfl)) dX0_lay_2 ⟨Nat.le_of_ble_eq_true rfl, Nat.le_of_ble_eq_true rfl⟩) (fun r_2 _ H locs hw_2 hP hS => ?_)
  refine va_put (D := D) (ci := 0) (v := .int r_2) (ty := .int) (C := RX0) (T := TX0) (N := 5) hx hb hts iw_X0_lay_X0 tyX0 tyX0_ok nmX0 hown hK hP hD hS 0 rfl rfl 3 (by decide) (hts (.fieldLink RX0 28 "KingTable$Ground" "size" "I") (List.mem_cons_of_mem _ (List.mem_append_left _ (List.mem_append_left _ (List.Mem.head _))))) (fun _ h9 => h9) rfl (by decide +kernel) rfl rfl (Nat.le_of_ble_eq_true rfl) dX0_lay_5 (fun H locs hP hD hS => ?_)
  have hP : va_P D vwCl [(gr, .inr (0, [.ref gt, .ref gg, .ref gn, .int r_2, .int gm])), (gt, .inl (cI, 81, .inl tg)), (gg, .inl (cZ, 81, .inl gl)), (gn, .inl (cI, 324, .inl nb)), (to, .inr (9, [.ref sg, .int ln, .int wd])), (sg, .inl (cI, 81, .inl fg))] H := hP
  have hD : va_D A [(gr, .inr (0, [.ref gt, .ref gg, .ref gn, .int r_2, .int gm])), (gt, .inl (cI, 81, .inl tg)), (gg, .inl (cZ, 81, .inl gl)), (gn, .inl (cI, 324, .inl nb)), (to, .inr (9, [.ref sg, .int ln, .int wd])), (sg, .inl (cI, 81, .inl fg))] := hD
  refine lv_aload_n hx hb dX0_lay_8 rfl (lv_at hl 0 rfl) ?_
  refine lv_aload_n hx hb dX0_lay_9 rfl (lv_at hl 1 rfl) ?_
  refine va_getN (D := D) (ci := 9) (C := RX9) (T := TX9) (N := 3) hx hb hts iw_X0_lay_X9 hown hK hP 4 rfl rfl 1 (by decide) (va_Nw.use (w := .fieldLinkNest RX0 31 "KingTable$Told" "lines" "I" "KingTable") rfl (hN _ (by decide +kernel))) (fun _ h9 => h9) rfl dX0_lay_10 ?_
  refine lv_aload_n hx hb dX0_lay_13 rfl (lv_at hl 1 rfl) ?_
  refine va_getN (D := D) (ci := 9) (C := RX9) (T := TX9) (N := 3) hx hb hts iw_X0_lay_X9 hown hK hP 4 rfl rfl 2 (by decide) (va_Nw.use (w := .fieldLinkNest RX0 34 "KingTable$Told" "width" "I" "KingTable") rfl (hN _ (by decide +kernel))) (fun _ h9 => h9) rfl dX0_lay_14 ?_
  refine lv_iadd hx hb dX0_lay_17 ?_
  refine lv_topi (fun t_17 et_17 => ?_)
  obtain ⟨k_17, hk_17, hm_17, hM_17⟩ := kt_addk et_17
  refine lv_iconst (v := 2) hx hb dX0_lay_18 (by decide) ?_
  refine lv_isub hx hb dX0_lay_19 ?_
  refine lv_topi (fun t_19 et_19 => ?_)
  obtain ⟨k_19, hk_19, hm_19, hM_19⟩ := kt_subk et_19
  try simp only [kt_c0, kt_c1, kt_c2, kt_c3, kt_c4, kt_c8, kt_c9, kt_cm1, kt_c81, kt_c40, kt_c7, kt_c5, kt_c6, kt_c512, kt_c10, kt_c10000] at hk_19
  refine va_put (D := D) (ci := 0) (v := .int t_19) (ty := .int) (C := RX0) (T := TX0) (N := 5) hx hb hts iw_X0_lay_X0 tyX0 tyX0_ok nmX0 hown hK hP hD hS 0 rfl rfl 4 (by decide) (hts (.fieldLink RX0 37 "KingTable$Ground" "mostMoves" "I") (List.mem_cons_of_mem _ (List.mem_append_left _ (List.mem_append_left _ (List.mem_cons_of_mem _ (List.Mem.head _)))))) (fun _ h9 => h9) rfl (by decide +kernel) rfl rfl (Nat.le_of_ble_eq_true rfl) dX0_lay_20 (fun H locs hP hD hS => ?_)
  have hP : va_P D vwCl [(gr, .inr (0, [.ref gt, .ref gg, .ref gn, .int r_2, .int t_19])), (gt, .inl (cI, 81, .inl tg)), (gg, .inl (cZ, 81, .inl gl)), (gn, .inl (cI, 324, .inl nb)), (to, .inr (9, [.ref sg, .int ln, .int wd])), (sg, .inl (cI, 81, .inl fg))] H := hP
  have hD : va_D A [(gr, .inr (0, [.ref gt, .ref gg, .ref gn, .int r_2, .int t_19])), (gt, .inl (cI, 81, .inl tg)), (gg, .inl (cZ, 81, .inl gl)), (gn, .inl (cI, 324, .inl nb)), (to, .inr (9, [.ref sg, .int ln, .int wd])), (sg, .inl (cI, 81, .inl fg))] := hD
  refine lv_iconst (v := 0) hx hb dX0_lay_23 (by decide) ?_
  refine lv_istore_n (lv' := [(3, .int 0), (0, .ref gr), (1, .ref to), (2, .int p2)]) hx hb dX0_lay_24 rfl hl (by decide) rfl (fun ls hl => ?_)
  refine kt_loop (σ := Nat × (Nat → Int32) × (Nat → Int32) × (Nat → Int32)) 25 7 (fun u => [(gr, .inr (0, [.ref gt, .ref gg, .ref gn, .int r_2, .int t_19])), (gt, .inl (cI, 81, .inl u.2.1)), (gg, .inl (cZ, 81, .inl u.2.2.1)), (gn, .inl (cI, 324, .inl u.2.2.2)), (to, .inr (9, [.ref sg, .int ln, .int wd])), (sg, .inl (cI, 81, .inl fg))]) (fun u => [(3, .int (nI u.1)), (0, .ref gr), (1, .ref to), (2, .int p2)]) (fun n u => (u.1 ≤ 9 ∧ 9 < u.1 + n ∧ (u.1 : Int) ≤ ln.toInt) ∧ kt_r u.2.1 81 0 2 ∧ kt_r u.2.2.1 81 0 1 ∧ kt_r u.2.2.2 324 (-1) 80) (fun u h => by omega) (fun n_25 ih_25 u hI H locs hP hD hS ls hl => ?_) (10) (0, tg, gl, nb) (by show (0 ≤ 9 ∧ 9 < 0 + 10 ∧ (0 : Int) ≤ ln.toInt) ∧ kt_r tg 81 0 2 ∧ kt_r gl 81 0 1 ∧ kt_r nb 324 (-1) 80; exact ⟨⟨by decide, by decide, by omega⟩, hgt, hgg, hnb⟩) hP hD hS (lv_sub hl [0, 1, 2, 3] rfl)
  obtain ⟨i, g1, g2, g3⟩ := u
  have hP : va_P D vwCl [(gr, .inr (0, [.ref gt, .ref gg, .ref gn, .int r_2, .int t_19])), (gt, .inl (cI, 81, .inl g1)), (gg, .inl (cZ, 81, .inl g2)), (gn, .inl (cI, 324, .inl g3)), (to, .inr (9, [.ref sg, .int ln, .int wd])), (sg, .inl (cI, 81, .inl fg))] H := hP
  have hD : va_D A [(gr, .inr (0, [.ref gt, .ref gg, .ref gn, .int r_2, .int t_19])), (gt, .inl (cI, 81, .inl g1)), (gg, .inl (cZ, 81, .inl g2)), (gn, .inl (cI, 324, .inl g3)), (to, .inr (9, [.ref sg, .int ln, .int wd])), (sg, .inl (cI, 81, .inl fg))] := hD
  have hl : lv_has ls 7 [(3, .int (nI i)), (0, .ref gr), (1, .ref to), (2, .int p2)] := hl
  have hI : (i ≤ 9 ∧ 9 < i + (n_25 + 1) ∧ (i : Int) ≤ ln.toInt) ∧ kt_r g1 81 0 2 ∧ kt_r g2 81 0 1 ∧ kt_r g3 324 (-1) 80 := hI
  obtain ⟨hib, hgt, hgg, hnb⟩ := hI
  have hi0 := kt_nI (n := i) (by omega)
  refine lv_iload_n hx hb dX0_lay_25 rfl (lv_at hl 0 rfl) ?_
  refine lv_aload_n hx hb dX0_lay_26 rfl (lv_at hl 2 rfl) ?_
  refine va_getN (D := D) (ci := 9) (C := RX9) (T := TX9) (N := 3) hx hb hts iw_X0_lay_X9 hown hK hP 4 rfl rfl 1 (by decide) (va_Nw.use (w := .fieldLinkNest RX0 31 "KingTable$Told" "lines" "I" "KingTable") rfl (hN _ (by decide +kernel))) (fun _ h9 => h9) rfl dX0_lay_27 ?_
  refine lv_icmp_ge (tgt := 264) hx hb dX0_lay_30 (by decide) (fun c_30 => ?_) (fun c_30 => ?_)
  · have d_30 := c_30
    simp only [kt_lt, kt_le, kt_eq, kt_c0, kt_c1, kt_c2, kt_c3, kt_c4, kt_c8, kt_c9, kt_cm1, kt_c81, kt_c40, kt_c7, kt_c5, kt_c6, kt_c512, kt_c10, kt_c10000] at d_30
    exact kt_rv (g1, g2, g3, r_2, t_19) hx hb hr hlk hS dX0_lay_264 hP hD (by show (kt_r g1 81 0 2 ∧ kt_r g2 81 0 1 ∧ kt_r g3 324 (-1) 80) ∧ (4 ≤ r_2.toInt ∧ r_2.toInt ≤ 81 ∧ r_2.toInt = ln.toInt * wd.toInt) ∧ (2 ≤ t_19.toInt ∧ t_19.toInt ≤ 16 ∧ t_19.toInt = ln.toInt + wd.toInt - 2); exact ⟨⟨hgt, hgg, hnb⟩, by omega, by omega⟩)
  · have d_30 := c_30
    simp only [kt_lt, kt_le, kt_eq, kt_c0, kt_c1, kt_c2, kt_c3, kt_c4, kt_c8, kt_c9, kt_cm1, kt_c81, kt_c40, kt_c7, kt_c5, kt_c6, kt_c512, kt_c10, kt_c10000] at d_30
    refine lv_iconst (v := 0) hx hb dX0_lay_33 (by decide) ?_
    refine lv_istore (lv' := [(4, .int 0), (3, .int (nI i)), (0, .ref gr), (1, .ref to), (2, .int p2)]) hx hb dX0_lay_34 hl (by decide) rfl (fun ls hl => ?_)
    refine kt_loop (σ := Nat × (Nat → Int32) × (Nat → Int32) × (Nat → Int32)) 36 7 (fun u => [(gr, .inr (0, [.ref gt, .ref gg, .ref gn, .int r_2, .int t_19])), (gt, .inl (cI, 81, .inl u.2.1)), (gg, .inl (cZ, 81, .inl u.2.2.1)), (gn, .inl (cI, 324, .inl u.2.2.2)), (to, .inr (9, [.ref sg, .int ln, .int wd])), (sg, .inl (cI, 81, .inl fg))]) (fun u => [(4, .int (nI u.1)), (3, .int (nI i)), (0, .ref gr), (1, .ref to), (2, .int p2)]) (fun n u => (u.1 ≤ 9 ∧ 9 < u.1 + n ∧ (u.1 : Int) ≤ wd.toInt) ∧ kt_r u.2.1 81 0 2 ∧ kt_r u.2.2.1 81 0 1 ∧ kt_r u.2.2.2 324 (-1) 80) (fun u h => by omega) (fun n_36 ih_36 u hI H locs hP hD hS ls hl => ?_) (10) (0, g1, g2, g3) (by show (0 ≤ 9 ∧ 9 < 0 + 10 ∧ (0 : Int) ≤ wd.toInt) ∧ kt_r g1 81 0 2 ∧ kt_r g2 81 0 1 ∧ kt_r g3 324 (-1) 80; exact ⟨⟨by decide, by decide, by omega⟩, hgt, hgg, hnb⟩) hP hD hS (lv_sub hl [0, 1, 2, 3, 4] rfl)
    obtain ⟨j, h1, h2, h3⟩ := u
    have hP : va_P D vwCl [(gr, .inr (0, [.ref gt, .ref gg, .ref gn, .int r_2, .int t_19])), (gt, .inl (cI, 81, .inl h1)), (gg, .inl (cZ, 81, .inl h2)), (gn, .inl (cI, 324, .inl h3)), (to, .inr (9, [.ref sg, .int ln, .int wd])), (sg, .inl (cI, 81, .inl fg))] H := hP
    have hD : va_D A [(gr, .inr (0, [.ref gt, .ref gg, .ref gn, .int r_2, .int t_19])), (gt, .inl (cI, 81, .inl h1)), (gg, .inl (cZ, 81, .inl h2)), (gn, .inl (cI, 324, .inl h3)), (to, .inr (9, [.ref sg, .int ln, .int wd])), (sg, .inl (cI, 81, .inl fg))] := hD
    have hl : lv_has ls 7 [(4, .int (nI j)), (3, .int (nI i)), (0, .ref gr), (1, .ref to), (2, .int p2)] := hl
    have hI : (j ≤ 9 ∧ 9 < j + (n_36 + 1) ∧ (j : Int) ≤ wd.toInt) ∧ kt_r h1 81 0 2 ∧ kt_r h2 81 0 1 ∧ kt_r h3 324 (-1) 80 := hI
    obtain ⟨hjb, hgt, hgg, hnb⟩ := hI
    have hj0 := kt_nI (n := j) (by omega)
    refine lv_iload hx hb dX0_lay_36 (lv_at hl 0 rfl) ?_
    refine lv_aload_n hx hb dX0_lay_38 rfl (lv_at hl 3 rfl) ?_
    refine va_getN (D := D) (ci := 9) (C := RX9) (T := TX9) (N := 3) hx hb hts iw_X0_lay_X9 hown hK hP 4 rfl rfl 2 (by decide) (va_Nw.use (w := .fieldLinkNest RX0 34 "KingTable$Told" "width" "I" "KingTable") rfl (hN _ (by decide +kernel))) (fun _ h9 => h9) rfl dX0_lay_39 ?_
    refine lv_icmp_ge (tgt := 258) hx hb dX0_lay_42 (by decide) (fun c_42 => ?_) (fun c_42 => ?_)
    · have d_42 := c_42
      simp only [kt_lt, kt_le, kt_eq, kt_c0, kt_c1, kt_c2, kt_c3, kt_c4, kt_c8, kt_c9, kt_cm1, kt_c81, kt_c40, kt_c7, kt_c5, kt_c6, kt_c512, kt_c10, kt_c10000] at d_42
      refine lv_iinc (v := nI (i + 1)) (lv' := [(3, .int (nI (i + 1))), (4, .int (nI j)), (0, .ref gr), (1, .ref to), (2, .int p2)]) hx hb dX0_lay_258 hl (k := 1) rfl (nI_1 _) (by decide) rfl (fun ls hl => ?_)
      refine lv_goto (tgt := 25) hx hb dX0_lay_261 (by decide) ?_
      exact ih_25 ((i + 1), h1, h2, h3) (by show ((i + 1) ≤ 9 ∧ 9 < (i + 1) + n_25 ∧ ((i + 1) : Int) ≤ ln.toInt) ∧ kt_r h1 81 0 2 ∧ kt_r h2 81 0 1 ∧ kt_r h3 324 (-1) 80; exact ⟨by omega, hgt, hgg, hnb⟩) H _ hP hD hS ls (lv_sub hl [0, 2, 3, 4] rfl)
    · have d_42 := c_42
      simp only [kt_lt, kt_le, kt_eq, kt_c0, kt_c1, kt_c2, kt_c3, kt_c4, kt_c8, kt_c9, kt_cm1, kt_c81, kt_c40, kt_c7, kt_c5, kt_c6, kt_c512, kt_c10, kt_c10000] at d_42
      have hF := kt_fld (r := (nI i).toInt) (c := (nI j).toInt) (L := ln.toInt) (w := wd.toInt) (by omega) (by omega) hwd (by omega)
      refine lv_iload_n hx hb dX0_lay_45 rfl (lv_at hl 1 rfl) ?_
      refine lv_aload_n hx hb dX0_lay_46 rfl (lv_at hl 3 rfl) ?_
      refine va_getN (D := D) (ci := 9) (C := RX9) (T := TX9) (N := 3) hx hb hts iw_X0_lay_X9 hown hK hP 4 rfl rfl 2 (by decide) (va_Nw.use (w := .fieldLinkNest RX0 34 "KingTable$Told" "width" "I" "KingTable") rfl (hN _ (by decide +kernel))) (fun _ h9 => h9) rfl dX0_lay_47 ?_
      refine lv_imul hx hb dX0_lay_50 ?_
      refine lv_topi (fun t_50 et_50 => ?_)
      obtain ⟨k_50, hk_50, hm_50, hM_50⟩ := kt_mulxk et_50
      refine lv_iload hx hb dX0_lay_51 (lv_at hl 0 rfl) ?_
      refine lv_iadd hx hb dX0_lay_53 ?_
      refine lv_topi (fun t_53 et_53 => ?_)
      obtain ⟨k_53, hk_53, hm_53, hM_53⟩ := kt_addk et_53
      refine lv_istore (lv' := [(5, .int t_53), (4, .int (nI j)), (3, .int (nI i)), (0, .ref gr), (1, .ref to), (2, .int p2)]) hx hb dX0_lay_54 hl (by decide) rfl (fun ls hl => ?_)
      refine lv_iload_n hx hb dX0_lay_56 rfl (lv_at hl 2 rfl) ?_
      refine kt_join (σ := Int32) 91 7 (fun u => [(gr, .inr (0, [.ref gt, .ref gg, .ref gn, .int r_2, .int t_19])), (gt, .inl (cI, 81, .inl h1)), (gg, .inl (cZ, 81, .inl h2)), (gn, .inl (cI, 324, .inl h3)), (to, .inr (9, [.ref sg, .int ln, .int wd])), (sg, .inl (cI, 81, .inl fg))]) (fun u => [(5, .int t_53), (4, .int (nI j)), (3, .int (nI i)), (0, .ref gr), (1, .ref to), (2, .int p2)]) (fun u => [.int u]) (fun u => 0 ≤ u.toInt ∧ u.toInt ≤ 1) (D := D) (A := A) (H0 := s.heap) (fun u hI H locs hP hD hS ls hl => ?_) (fun j_91 => ?_)
      · obtain ⟨ed, rfl⟩ : ∃ z, z = u := ⟨_, rfl⟩
        have hP : va_P D vwCl [(gr, .inr (0, [.ref gt, .ref gg, .ref gn, .int r_2, .int t_19])), (gt, .inl (cI, 81, .inl h1)), (gg, .inl (cZ, 81, .inl h2)), (gn, .inl (cI, 324, .inl h3)), (to, .inr (9, [.ref sg, .int ln, .int wd])), (sg, .inl (cI, 81, .inl fg))] H := hP
        have hD : va_D A [(gr, .inr (0, [.ref gt, .ref gg, .ref gn, .int r_2, .int t_19])), (gt, .inl (cI, 81, .inl h1)), (gg, .inl (cZ, 81, .inl h2)), (gn, .inl (cI, 324, .inl h3)), (to, .inr (9, [.ref sg, .int ln, .int wd])), (sg, .inl (cI, 81, .inl fg))] := hD
        have hl : lv_has ls 7 [(5, .int t_53), (4, .int (nI j)), (3, .int (nI i)), (0, .ref gr), (1, .ref to), (2, .int p2)] := hl
        have hI : 0 ≤ ed.toInt ∧ ed.toInt ≤ 1 := hI
        have hed := hI
        refine lv_istore (lv' := [(6, .int ed), (5, .int t_53), (4, .int (nI j)), (3, .int (nI i)), (0, .ref gr), (1, .ref to), (2, .int p2)]) hx hb dX0_lay_91 hl (by decide) rfl (fun ls hl => ?_)
        refine lv_aload_n hx hb dX0_lay_93 rfl (lv_at hl 4 rfl) ?_
        refine va_get (D := D) (ci := 0) (C := RX0) (T := TX0) (N := 5) hx hb hts iw_X0_lay_X0 hown hK hP 0 rfl rfl 0 (by decide) (hts (.fieldLink RX0 9 "KingTable$Ground" "types" "[I") (List.mem_cons_of_mem _ (List.mem_append_left _ (List.mem_append_left _ (List.mem_cons_of_mem _ (List.mem_cons_of_mem _ (List.Mem.head _))))))) (fun _ h9 => h9) rfl dX0_lay_94 ?_
        refine lv_iload hx hb dX0_lay_97 (lv_at hl 1 rfl) ?_
        refine lv_aload_n hx hb dX0_lay_99 rfl (lv_at hl 5 rfl) ?_
        refine va_getN (D := D) (ci := 9) (C := RX9) (T := TX9) (N := 3) hx hb hts iw_X0_lay_X9 hown hK hP 4 rfl rfl 0 (by decide) (va_Nw.use (w := .fieldLinkNest RX0 40 "KingTable$Told" "signs" "[I" "KingTable") rfl (hN _ (by decide +kernel))) (fun _ h9 => h9) rfl dX0_lay_100 ?_
        refine lv_iload hx hb dX0_lay_103 (lv_at hl 1 rfl) ?_
        have hi_1 : vp_in t_53 81 := by exact kt_in (by omega) (by omega)
        refine va_iald hx hb hK hP 5 0 rfl rfl hi_1 dX0_lay_105 ?_
        refine lv_topi (fun a_105 ea_105 => ?_)
        have ra_105 := hfg.get hi_1
        rw [← ea_105] at ra_105
        refine kt_pi (wc := []) [] hP hD hS hA rfl (by decide) (fun hPc hDc => va_runSN (As := [.int a_105]) (rest := [.int t_53, .ref gt]) ⟨hx, hb, hml, hown, hts⟩ (c_X10_typeOfSign l D cI cZ cB H.size a_105 ) ⟨va_cnB 1 hts gX0_lay_X10_typeOfSign_n43 rfl rfl rfl (hN (.methodLinkNest "KingTable$Ground" 43 yX10_typeOfSign "KingTable") (by decide +kernel)) (hts (.initialized RX10) (List.mem_cons_of_mem _ (List.mem_append_left _ (List.mem_append_left _ (List.mem_cons_of_mem _ (List.mem_cons_of_mem _ (List.mem_cons_of_mem _ (List.mem_cons_of_mem _ (List.mem_cons_of_mem _ (List.mem_cons_of_mem _ (List.mem_cons_of_mem _ (List.mem_cons_of_mem _ (List.mem_cons_of_mem _ (List.mem_cons_of_mem _ (List.mem_cons_of_mem _ (List.mem_cons_of_mem _ (List.mem_cons_of_mem _ (List.Mem.head _)))))))))))))))))) (by decide +kernel) ⟨Nat.le_of_ble_eq_true rfl, Nat.le_of_ble_eq_true rfl⟩, (hts (.static yX10_typeOfSign) (List.mem_cons_of_mem _ (List.mem_append_left _ (List.mem_append_left _ (List.mem_cons_of_mem _ (List.mem_cons_of_mem _ (List.mem_cons_of_mem _ (List.mem_cons_of_mem _ (List.mem_cons_of_mem _ (List.mem_cons_of_mem _ (List.mem_cons_of_mem _ (List.mem_cons_of_mem _ (List.mem_cons_of_mem _ (List.mem_cons_of_mem _ (List.mem_cons_of_mem _ (List.mem_cons_of_mem _ (List.Mem.head _))))))))))))))))), trivial⟩ (kt_preS hN hK hPc hDc) rfl rfl hl.1 rfl (lv_room (Nat.le_of_ble_eq_true rfl)) dX0_lay_106 ⟨Nat.le_of_ble_eq_true rfl, Nat.le_of_ble_eq_true rfl⟩) (fun r_106 _ H locs hw_106 hP hS => ?_)
        subst hw_106
        have hty := kt_tp_r a_105
        have hi_2 : vp_in t_53 81 := by exact kt_in (by omega) (by omega)
        refine va_iast hx hb hK hP hD hS 1 0 rfl rfl hi_2 dX0_lay_109 (fun H locs hP hD hS => ?_)
        have hgt : kt_r (upd h1 t_53.toNatClampNeg (kt_tp a_105)) 81 0 2 := hgt.upd (by omega) (by omega)
        have hP : va_P D vwCl [(gr, .inr (0, [.ref gt, .ref gg, .ref gn, .int r_2, .int t_19])), (gt, .inl (cI, 81, .inl (upd h1 t_53.toNatClampNeg (kt_tp a_105)))), (gg, .inl (cZ, 81, .inl h2)), (gn, .inl (cI, 324, .inl h3)), (to, .inr (9, [.ref sg, .int ln, .int wd])), (sg, .inl (cI, 81, .inl fg))] H := hP
        have hD : va_D A [(gr, .inr (0, [.ref gt, .ref gg, .ref gn, .int r_2, .int t_19])), (gt, .inl (cI, 81, .inl (upd h1 t_53.toNatClampNeg (kt_tp a_105)))), (gg, .inl (cZ, 81, .inl h2)), (gn, .inl (cI, 324, .inl h3)), (to, .inr (9, [.ref sg, .int ln, .int wd])), (sg, .inl (cI, 81, .inl fg))] := hD
        refine lv_aload_n hx hb dX0_lay_110 rfl (lv_at hl 4 rfl) ?_
        refine va_get (D := D) (ci := 0) (C := RX0) (T := TX0) (N := 5) hx hb hts iw_X0_lay_X0 hown hK hP 0 rfl rfl 1 (by decide) (hts (.fieldLink RX0 15 "KingTable$Ground" "goals" "[Z") (List.mem_cons_of_mem _ (List.mem_append_left _ (List.mem_append_left _ (List.mem_cons_of_mem _ (List.mem_cons_of_mem _ (List.mem_cons_of_mem _ (List.Mem.head _)))))))) (fun _ h9 => h9) rfl dX0_lay_111 ?_
        refine lv_iload hx hb dX0_lay_114 (lv_at hl 1 rfl) ?_
        refine lv_iload_n hx hb dX0_lay_116 rfl (lv_at hl 6 rfl) ?_
        refine kt_join (σ := Int32) 141 7 (fun u => [(gr, .inr (0, [.ref gt, .ref gg, .ref gn, .int r_2, .int t_19])), (gt, .inl (cI, 81, .inl (upd h1 t_53.toNatClampNeg (kt_tp a_105)))), (gg, .inl (cZ, 81, .inl h2)), (gn, .inl (cI, 324, .inl h3)), (to, .inr (9, [.ref sg, .int ln, .int wd])), (sg, .inl (cI, 81, .inl fg))]) (fun u => [(6, .int ed), (5, .int t_53), (4, .int (nI j)), (3, .int (nI i)), (0, .ref gr), (1, .ref to), (2, .int p2)]) (fun u => [.int u, .int t_53, .ref gg]) (fun u => 0 ≤ u.toInt ∧ u.toInt ≤ 1) (D := D) (A := A) (H0 := s.heap) (fun u hI H locs hP hD hS ls hl => ?_) (fun j_141 => ?_)
        · obtain ⟨gv, rfl⟩ : ∃ z, z = u := ⟨_, rfl⟩
          have hP : va_P D vwCl [(gr, .inr (0, [.ref gt, .ref gg, .ref gn, .int r_2, .int t_19])), (gt, .inl (cI, 81, .inl (upd h1 t_53.toNatClampNeg (kt_tp a_105)))), (gg, .inl (cZ, 81, .inl h2)), (gn, .inl (cI, 324, .inl h3)), (to, .inr (9, [.ref sg, .int ln, .int wd])), (sg, .inl (cI, 81, .inl fg))] H := hP
          have hD : va_D A [(gr, .inr (0, [.ref gt, .ref gg, .ref gn, .int r_2, .int t_19])), (gt, .inl (cI, 81, .inl (upd h1 t_53.toNatClampNeg (kt_tp a_105)))), (gg, .inl (cZ, 81, .inl h2)), (gn, .inl (cI, 324, .inl h3)), (to, .inr (9, [.ref sg, .int ln, .int wd])), (sg, .inl (cI, 81, .inl fg))] := hD
          have hl : lv_has ls 7 [(6, .int ed), (5, .int t_53), (4, .int (nI j)), (3, .int (nI i)), (0, .ref gr), (1, .ref to), (2, .int p2)] := hl
          have hI : 0 ≤ gv.toInt ∧ gv.toInt ≤ 1 := hI
          have hgv := hI
          have hgn := kt_zn hgv.1 hgv.2
          have hi_3 : vp_in t_53 81 := by exact kt_in (by omega) (by omega)
          refine va_zast hx hb hK hP hD hS 2 1 rfl rfl hi_3 dX0_lay_141 (fun H locs hP hD hS => ?_)
          have hgg : kt_r (upd h2 t_53.toNatClampNeg (vp_nar .boolean gv)) 81 0 1 := hgg.upd (by rw [hgn]; exact hgv.1) (by rw [hgn]; exact hgv.2)
          have hP : va_P D vwCl [(gr, .inr (0, [.ref gt, .ref gg, .ref gn, .int r_2, .int t_19])), (gt, .inl (cI, 81, .inl (upd h1 t_53.toNatClampNeg (kt_tp a_105)))), (gg, .inl (cZ, 81, .inl (upd h2 t_53.toNatClampNeg (vp_nar .boolean gv)))), (gn, .inl (cI, 324, .inl h3)), (to, .inr (9, [.ref sg, .int ln, .int wd])), (sg, .inl (cI, 81, .inl fg))] H := hP
          have hD : va_D A [(gr, .inr (0, [.ref gt, .ref gg, .ref gn, .int r_2, .int t_19])), (gt, .inl (cI, 81, .inl (upd h1 t_53.toNatClampNeg (kt_tp a_105)))), (gg, .inl (cZ, 81, .inl (upd h2 t_53.toNatClampNeg (vp_nar .boolean gv)))), (gn, .inl (cI, 324, .inl h3)), (to, .inr (9, [.ref sg, .int ln, .int wd])), (sg, .inl (cI, 81, .inl fg))] := hD
          refine lv_aload_n hx hb dX0_lay_142 rfl (lv_at hl 4 rfl) ?_
          refine va_get (D := D) (ci := 0) (C := RX0) (T := TX0) (N := 5) hx hb hts iw_X0_lay_X0 hown hK hP 0 rfl rfl 2 (by decide) (hts (.fieldLink RX0 19 "KingTable$Ground" "neighbours" "[I") (List.mem_cons_of_mem _ (List.mem_append_left _ (List.mem_append_left _ (List.mem_cons_of_mem _ (List.mem_cons_of_mem _ (List.mem_cons_of_mem _ (List.mem_cons_of_mem _ (List.Mem.head _))))))))) (fun _ h9 => h9) rfl dX0_lay_143 ?_
          refine lv_iload hx hb dX0_lay_146 (lv_at hl 1 rfl) ?_
          refine lv_iconst (v := 4) hx hb dX0_lay_148 (by decide) ?_
          refine lv_imul hx hb dX0_lay_149 ?_
          refine lv_topi (fun t_149 et_149 => ?_)
          obtain ⟨k_149, hk_149, hm_149, hM_149⟩ := kt_mulk (C := 4) et_149 (by decide)
          try simp only [kt_c0, kt_c1, kt_c2, kt_c3, kt_c4, kt_c8, kt_c9, kt_cm1, kt_c81, kt_c40, kt_c7, kt_c5, kt_c6, kt_c512, kt_c10, kt_c10000] at hk_149
          refine lv_iload_n hx hb dX0_lay_150 rfl (lv_at hl 3 rfl) ?_
          refine kt_join (σ := Int32) 165 7 (fun u => [(gr, .inr (0, [.ref gt, .ref gg, .ref gn, .int r_2, .int t_19])), (gt, .inl (cI, 81, .inl (upd h1 t_53.toNatClampNeg (kt_tp a_105)))), (gg, .inl (cZ, 81, .inl (upd h2 t_53.toNatClampNeg (vp_nar .boolean gv)))), (gn, .inl (cI, 324, .inl h3)), (to, .inr (9, [.ref sg, .int ln, .int wd])), (sg, .inl (cI, 81, .inl fg))]) (fun u => [(6, .int ed), (5, .int t_53), (4, .int (nI j)), (3, .int (nI i)), (0, .ref gr), (1, .ref to), (2, .int p2)]) (fun u => [.int u, .int t_149, .ref gn]) (fun u => -1 ≤ u.toInt ∧ u.toInt ≤ 80) (D := D) (A := A) (H0 := s.heap) (fun u hI H locs hP hD hS ls hl => ?_) (fun j_165 => ?_)
          · obtain ⟨v0, rfl⟩ : ∃ z, z = u := ⟨_, rfl⟩
            have hP : va_P D vwCl [(gr, .inr (0, [.ref gt, .ref gg, .ref gn, .int r_2, .int t_19])), (gt, .inl (cI, 81, .inl (upd h1 t_53.toNatClampNeg (kt_tp a_105)))), (gg, .inl (cZ, 81, .inl (upd h2 t_53.toNatClampNeg (vp_nar .boolean gv)))), (gn, .inl (cI, 324, .inl h3)), (to, .inr (9, [.ref sg, .int ln, .int wd])), (sg, .inl (cI, 81, .inl fg))] H := hP
            have hD : va_D A [(gr, .inr (0, [.ref gt, .ref gg, .ref gn, .int r_2, .int t_19])), (gt, .inl (cI, 81, .inl (upd h1 t_53.toNatClampNeg (kt_tp a_105)))), (gg, .inl (cZ, 81, .inl (upd h2 t_53.toNatClampNeg (vp_nar .boolean gv)))), (gn, .inl (cI, 324, .inl h3)), (to, .inr (9, [.ref sg, .int ln, .int wd])), (sg, .inl (cI, 81, .inl fg))] := hD
            have hl : lv_has ls 7 [(6, .int ed), (5, .int t_53), (4, .int (nI j)), (3, .int (nI i)), (0, .ref gr), (1, .ref to), (2, .int p2)] := hl
            have hI : -1 ≤ v0.toInt ∧ v0.toInt ≤ 80 := hI
            have hv0 := hI
            have hi_4 : vp_in t_149 324 := by exact kt_in (by omega) (by omega)
            refine va_iast hx hb hK hP hD hS 3 0 rfl rfl hi_4 dX0_lay_165 (fun H locs hP hD hS => ?_)
            have hnb : kt_r (upd h3 t_149.toNatClampNeg v0) 324 (-1) 80 := hnb.upd (by omega) (by omega)
            have hP : va_P D vwCl [(gr, .inr (0, [.ref gt, .ref gg, .ref gn, .int r_2, .int t_19])), (gt, .inl (cI, 81, .inl (upd h1 t_53.toNatClampNeg (kt_tp a_105)))), (gg, .inl (cZ, 81, .inl (upd h2 t_53.toNatClampNeg (vp_nar .boolean gv)))), (gn, .inl (cI, 324, .inl (upd h3 t_149.toNatClampNeg v0))), (to, .inr (9, [.ref sg, .int ln, .int wd])), (sg, .inl (cI, 81, .inl fg))] H := hP
            have hD : va_D A [(gr, .inr (0, [.ref gt, .ref gg, .ref gn, .int r_2, .int t_19])), (gt, .inl (cI, 81, .inl (upd h1 t_53.toNatClampNeg (kt_tp a_105)))), (gg, .inl (cZ, 81, .inl (upd h2 t_53.toNatClampNeg (vp_nar .boolean gv)))), (gn, .inl (cI, 324, .inl (upd h3 t_149.toNatClampNeg v0))), (to, .inr (9, [.ref sg, .int ln, .int wd])), (sg, .inl (cI, 81, .inl fg))] := hD
            refine lv_aload_n hx hb dX0_lay_166 rfl (lv_at hl 4 rfl) ?_
            refine va_get (D := D) (ci := 0) (C := RX0) (T := TX0) (N := 5) hx hb hts iw_X0_lay_X0 hown hK hP 0 rfl rfl 2 (by decide) (hts (.fieldLink RX0 19 "KingTable$Ground" "neighbours" "[I") (List.mem_cons_of_mem _ (List.mem_append_left _ (List.mem_append_left _ (List.mem_cons_of_mem _ (List.mem_cons_of_mem _ (List.mem_cons_of_mem _ (List.mem_cons_of_mem _ (List.Mem.head _))))))))) (fun _ h9 => h9) rfl dX0_lay_167 ?_
            refine lv_iload hx hb dX0_lay_170 (lv_at hl 1 rfl) ?_
            refine lv_iconst (v := 4) hx hb dX0_lay_172 (by decide) ?_
            refine lv_imul hx hb dX0_lay_173 ?_
            refine lv_topi (fun t_173 et_173 => ?_)
            obtain ⟨k_173, hk_173, hm_173, hM_173⟩ := kt_mulk (C := 4) et_173 (by decide)
            try simp only [kt_c0, kt_c1, kt_c2, kt_c3, kt_c4, kt_c8, kt_c9, kt_cm1, kt_c81, kt_c40, kt_c7, kt_c5, kt_c6, kt_c512, kt_c10, kt_c10000] at hk_173
            refine lv_iconst (v := 1) hx hb dX0_lay_174 (by decide) ?_
            refine lv_iadd hx hb dX0_lay_175 ?_
            refine lv_topi (fun t_175 et_175 => ?_)
            obtain ⟨k_175, hk_175, hm_175, hM_175⟩ := kt_addk et_175
            try simp only [kt_c0, kt_c1, kt_c2, kt_c3, kt_c4, kt_c8, kt_c9, kt_cm1, kt_c81, kt_c40, kt_c7, kt_c5, kt_c6, kt_c512, kt_c10, kt_c10000] at hk_175
            refine lv_iload hx hb dX0_lay_176 (lv_at hl 2 rfl) ?_
            refine lv_aload_n hx hb dX0_lay_178 rfl (lv_at hl 5 rfl) ?_
            refine va_getN (D := D) (ci := 9) (C := RX9) (T := TX9) (N := 3) hx hb hts iw_X0_lay_X9 hown hK hP 4 rfl rfl 2 (by decide) (va_Nw.use (w := .fieldLinkNest RX0 34 "KingTable$Told" "width" "I" "KingTable") rfl (hN _ (by decide +kernel))) (fun _ h9 => h9) rfl dX0_lay_179 ?_
            refine lv_iconst (v := 1) hx hb dX0_lay_182 (by decide) ?_
            refine lv_isub hx hb dX0_lay_183 ?_
            refine lv_topi (fun t_183 et_183 => ?_)
            obtain ⟨k_183, hk_183, hm_183, hM_183⟩ := kt_subk et_183
            try simp only [kt_c0, kt_c1, kt_c2, kt_c3, kt_c4, kt_c8, kt_c9, kt_cm1, kt_c81, kt_c40, kt_c7, kt_c5, kt_c6, kt_c512, kt_c10, kt_c10000] at hk_183
            refine kt_join (σ := Int32) 195 7 (fun u => [(gr, .inr (0, [.ref gt, .ref gg, .ref gn, .int r_2, .int t_19])), (gt, .inl (cI, 81, .inl (upd h1 t_53.toNatClampNeg (kt_tp a_105)))), (gg, .inl (cZ, 81, .inl (upd h2 t_53.toNatClampNeg (vp_nar .boolean gv)))), (gn, .inl (cI, 324, .inl (upd h3 t_149.toNatClampNeg v0))), (to, .inr (9, [.ref sg, .int ln, .int wd])), (sg, .inl (cI, 81, .inl fg))]) (fun u => [(6, .int ed), (5, .int t_53), (4, .int (nI j)), (3, .int (nI i)), (0, .ref gr), (1, .ref to), (2, .int p2)]) (fun u => [.int u, .int t_175, .ref gn]) (fun u => -1 ≤ u.toInt ∧ u.toInt ≤ 80) (D := D) (A := A) (H0 := s.heap) (fun u hI H locs hP hD hS ls hl => ?_) (fun j_195 => ?_)
            · obtain ⟨v1, rfl⟩ : ∃ z, z = u := ⟨_, rfl⟩
              have hP : va_P D vwCl [(gr, .inr (0, [.ref gt, .ref gg, .ref gn, .int r_2, .int t_19])), (gt, .inl (cI, 81, .inl (upd h1 t_53.toNatClampNeg (kt_tp a_105)))), (gg, .inl (cZ, 81, .inl (upd h2 t_53.toNatClampNeg (vp_nar .boolean gv)))), (gn, .inl (cI, 324, .inl (upd h3 t_149.toNatClampNeg v0))), (to, .inr (9, [.ref sg, .int ln, .int wd])), (sg, .inl (cI, 81, .inl fg))] H := hP
              have hD : va_D A [(gr, .inr (0, [.ref gt, .ref gg, .ref gn, .int r_2, .int t_19])), (gt, .inl (cI, 81, .inl (upd h1 t_53.toNatClampNeg (kt_tp a_105)))), (gg, .inl (cZ, 81, .inl (upd h2 t_53.toNatClampNeg (vp_nar .boolean gv)))), (gn, .inl (cI, 324, .inl (upd h3 t_149.toNatClampNeg v0))), (to, .inr (9, [.ref sg, .int ln, .int wd])), (sg, .inl (cI, 81, .inl fg))] := hD
              have hl : lv_has ls 7 [(6, .int ed), (5, .int t_53), (4, .int (nI j)), (3, .int (nI i)), (0, .ref gr), (1, .ref to), (2, .int p2)] := hl
              have hI : -1 ≤ v1.toInt ∧ v1.toInt ≤ 80 := hI
              have hv1 := hI
              have hi_5 : vp_in t_175 324 := by exact kt_in (by omega) (by omega)
              refine va_iast hx hb hK hP hD hS 3 0 rfl rfl hi_5 dX0_lay_195 (fun H locs hP hD hS => ?_)
              have hnb : kt_r (upd (upd h3 t_149.toNatClampNeg v0) t_175.toNatClampNeg v1) 324 (-1) 80 := hnb.upd (by omega) (by omega)
              have hP : va_P D vwCl [(gr, .inr (0, [.ref gt, .ref gg, .ref gn, .int r_2, .int t_19])), (gt, .inl (cI, 81, .inl (upd h1 t_53.toNatClampNeg (kt_tp a_105)))), (gg, .inl (cZ, 81, .inl (upd h2 t_53.toNatClampNeg (vp_nar .boolean gv)))), (gn, .inl (cI, 324, .inl (upd (upd h3 t_149.toNatClampNeg v0) t_175.toNatClampNeg v1))), (to, .inr (9, [.ref sg, .int ln, .int wd])), (sg, .inl (cI, 81, .inl fg))] H := hP
              have hD : va_D A [(gr, .inr (0, [.ref gt, .ref gg, .ref gn, .int r_2, .int t_19])), (gt, .inl (cI, 81, .inl (upd h1 t_53.toNatClampNeg (kt_tp a_105)))), (gg, .inl (cZ, 81, .inl (upd h2 t_53.toNatClampNeg (vp_nar .boolean gv)))), (gn, .inl (cI, 324, .inl (upd (upd h3 t_149.toNatClampNeg v0) t_175.toNatClampNeg v1))), (to, .inr (9, [.ref sg, .int ln, .int wd])), (sg, .inl (cI, 81, .inl fg))] := hD
              refine lv_aload_n hx hb dX0_lay_196 rfl (lv_at hl 4 rfl) ?_
              refine va_get (D := D) (ci := 0) (C := RX0) (T := TX0) (N := 5) hx hb hts iw_X0_lay_X0 hown hK hP 0 rfl rfl 2 (by decide) (hts (.fieldLink RX0 19 "KingTable$Ground" "neighbours" "[I") (List.mem_cons_of_mem _ (List.mem_append_left _ (List.mem_append_left _ (List.mem_cons_of_mem _ (List.mem_cons_of_mem _ (List.mem_cons_of_mem _ (List.mem_cons_of_mem _ (List.Mem.head _))))))))) (fun _ h9 => h9) rfl dX0_lay_197 ?_
              refine lv_iload hx hb dX0_lay_200 (lv_at hl 1 rfl) ?_
              refine lv_iconst (v := 4) hx hb dX0_lay_202 (by decide) ?_
              refine lv_imul hx hb dX0_lay_203 ?_
              refine lv_topi (fun t_203 et_203 => ?_)
              obtain ⟨k_203, hk_203, hm_203, hM_203⟩ := kt_mulk (C := 4) et_203 (by decide)
              try simp only [kt_c0, kt_c1, kt_c2, kt_c3, kt_c4, kt_c8, kt_c9, kt_cm1, kt_c81, kt_c40, kt_c7, kt_c5, kt_c6, kt_c512, kt_c10, kt_c10000] at hk_203
              refine lv_iconst (v := 2) hx hb dX0_lay_204 (by decide) ?_
              refine lv_iadd hx hb dX0_lay_205 ?_
              refine lv_topi (fun t_205 et_205 => ?_)
              obtain ⟨k_205, hk_205, hm_205, hM_205⟩ := kt_addk et_205
              try simp only [kt_c0, kt_c1, kt_c2, kt_c3, kt_c4, kt_c8, kt_c9, kt_cm1, kt_c81, kt_c40, kt_c7, kt_c5, kt_c6, kt_c512, kt_c10, kt_c10000] at hk_205
              refine lv_iload_n hx hb dX0_lay_206 rfl (lv_at hl 3 rfl) ?_
              refine lv_aload_n hx hb dX0_lay_207 rfl (lv_at hl 5 rfl) ?_
              refine va_getN (D := D) (ci := 9) (C := RX9) (T := TX9) (N := 3) hx hb hts iw_X0_lay_X9 hown hK hP 4 rfl rfl 1 (by decide) (va_Nw.use (w := .fieldLinkNest RX0 31 "KingTable$Told" "lines" "I" "KingTable") rfl (hN _ (by decide +kernel))) (fun _ h9 => h9) rfl dX0_lay_208 ?_
              refine lv_iconst (v := 1) hx hb dX0_lay_211 (by decide) ?_
              refine lv_isub hx hb dX0_lay_212 ?_
              refine lv_topi (fun t_212 et_212 => ?_)
              obtain ⟨k_212, hk_212, hm_212, hM_212⟩ := kt_subk et_212
              try simp only [kt_c0, kt_c1, kt_c2, kt_c3, kt_c4, kt_c8, kt_c9, kt_cm1, kt_c81, kt_c40, kt_c7, kt_c5, kt_c6, kt_c512, kt_c10, kt_c10000] at hk_212
              refine kt_join (σ := Int32) 227 7 (fun u => [(gr, .inr (0, [.ref gt, .ref gg, .ref gn, .int r_2, .int t_19])), (gt, .inl (cI, 81, .inl (upd h1 t_53.toNatClampNeg (kt_tp a_105)))), (gg, .inl (cZ, 81, .inl (upd h2 t_53.toNatClampNeg (vp_nar .boolean gv)))), (gn, .inl (cI, 324, .inl (upd (upd h3 t_149.toNatClampNeg v0) t_175.toNatClampNeg v1))), (to, .inr (9, [.ref sg, .int ln, .int wd])), (sg, .inl (cI, 81, .inl fg))]) (fun u => [(6, .int ed), (5, .int t_53), (4, .int (nI j)), (3, .int (nI i)), (0, .ref gr), (1, .ref to), (2, .int p2)]) (fun u => [.int u, .int t_205, .ref gn]) (fun u => -1 ≤ u.toInt ∧ u.toInt ≤ 80) (D := D) (A := A) (H0 := s.heap) (fun u hI H locs hP hD hS ls hl => ?_) (fun j_227 => ?_)
              · obtain ⟨v2, rfl⟩ : ∃ z, z = u := ⟨_, rfl⟩
                have hP : va_P D vwCl [(gr, .inr (0, [.ref gt, .ref gg, .ref gn, .int r_2, .int t_19])), (gt, .inl (cI, 81, .inl (upd h1 t_53.toNatClampNeg (kt_tp a_105)))), (gg, .inl (cZ, 81, .inl (upd h2 t_53.toNatClampNeg (vp_nar .boolean gv)))), (gn, .inl (cI, 324, .inl (upd (upd h3 t_149.toNatClampNeg v0) t_175.toNatClampNeg v1))), (to, .inr (9, [.ref sg, .int ln, .int wd])), (sg, .inl (cI, 81, .inl fg))] H := hP
                have hD : va_D A [(gr, .inr (0, [.ref gt, .ref gg, .ref gn, .int r_2, .int t_19])), (gt, .inl (cI, 81, .inl (upd h1 t_53.toNatClampNeg (kt_tp a_105)))), (gg, .inl (cZ, 81, .inl (upd h2 t_53.toNatClampNeg (vp_nar .boolean gv)))), (gn, .inl (cI, 324, .inl (upd (upd h3 t_149.toNatClampNeg v0) t_175.toNatClampNeg v1))), (to, .inr (9, [.ref sg, .int ln, .int wd])), (sg, .inl (cI, 81, .inl fg))] := hD
                have hl : lv_has ls 7 [(6, .int ed), (5, .int t_53), (4, .int (nI j)), (3, .int (nI i)), (0, .ref gr), (1, .ref to), (2, .int p2)] := hl
                have hI : -1 ≤ v2.toInt ∧ v2.toInt ≤ 80 := hI
                have hv2 := hI
                have hi_6 : vp_in t_205 324 := by exact kt_in (by omega) (by omega)
                refine va_iast hx hb hK hP hD hS 3 0 rfl rfl hi_6 dX0_lay_227 (fun H locs hP hD hS => ?_)
                have hnb : kt_r (upd (upd (upd h3 t_149.toNatClampNeg v0) t_175.toNatClampNeg v1) t_205.toNatClampNeg v2) 324 (-1) 80 := hnb.upd (by omega) (by omega)
                have hP : va_P D vwCl [(gr, .inr (0, [.ref gt, .ref gg, .ref gn, .int r_2, .int t_19])), (gt, .inl (cI, 81, .inl (upd h1 t_53.toNatClampNeg (kt_tp a_105)))), (gg, .inl (cZ, 81, .inl (upd h2 t_53.toNatClampNeg (vp_nar .boolean gv)))), (gn, .inl (cI, 324, .inl (upd (upd (upd h3 t_149.toNatClampNeg v0) t_175.toNatClampNeg v1) t_205.toNatClampNeg v2))), (to, .inr (9, [.ref sg, .int ln, .int wd])), (sg, .inl (cI, 81, .inl fg))] H := hP
                have hD : va_D A [(gr, .inr (0, [.ref gt, .ref gg, .ref gn, .int r_2, .int t_19])), (gt, .inl (cI, 81, .inl (upd h1 t_53.toNatClampNeg (kt_tp a_105)))), (gg, .inl (cZ, 81, .inl (upd h2 t_53.toNatClampNeg (vp_nar .boolean gv)))), (gn, .inl (cI, 324, .inl (upd (upd (upd h3 t_149.toNatClampNeg v0) t_175.toNatClampNeg v1) t_205.toNatClampNeg v2))), (to, .inr (9, [.ref sg, .int ln, .int wd])), (sg, .inl (cI, 81, .inl fg))] := hD
                refine lv_aload_n hx hb dX0_lay_228 rfl (lv_at hl 4 rfl) ?_
                refine va_get (D := D) (ci := 0) (C := RX0) (T := TX0) (N := 5) hx hb hts iw_X0_lay_X0 hown hK hP 0 rfl rfl 2 (by decide) (hts (.fieldLink RX0 19 "KingTable$Ground" "neighbours" "[I") (List.mem_cons_of_mem _ (List.mem_append_left _ (List.mem_append_left _ (List.mem_cons_of_mem _ (List.mem_cons_of_mem _ (List.mem_cons_of_mem _ (List.mem_cons_of_mem _ (List.Mem.head _))))))))) (fun _ h9 => h9) rfl dX0_lay_229 ?_
                refine lv_iload hx hb dX0_lay_232 (lv_at hl 1 rfl) ?_
                refine lv_iconst (v := 4) hx hb dX0_lay_234 (by decide) ?_
                refine lv_imul hx hb dX0_lay_235 ?_
                refine lv_topi (fun t_235 et_235 => ?_)
                obtain ⟨k_235, hk_235, hm_235, hM_235⟩ := kt_mulk (C := 4) et_235 (by decide)
                try simp only [kt_c0, kt_c1, kt_c2, kt_c3, kt_c4, kt_c8, kt_c9, kt_cm1, kt_c81, kt_c40, kt_c7, kt_c5, kt_c6, kt_c512, kt_c10, kt_c10000] at hk_235
                refine lv_iconst (v := 3) hx hb dX0_lay_236 (by decide) ?_
                refine lv_iadd hx hb dX0_lay_237 ?_
                refine lv_topi (fun t_237 et_237 => ?_)
                obtain ⟨k_237, hk_237, hm_237, hM_237⟩ := kt_addk et_237
                try simp only [kt_c0, kt_c1, kt_c2, kt_c3, kt_c4, kt_c8, kt_c9, kt_cm1, kt_c81, kt_c40, kt_c7, kt_c5, kt_c6, kt_c512, kt_c10, kt_c10000] at hk_237
                refine lv_iload hx hb dX0_lay_238 (lv_at hl 2 rfl) ?_
                refine kt_join (σ := Int32) 251 7 (fun u => [(gr, .inr (0, [.ref gt, .ref gg, .ref gn, .int r_2, .int t_19])), (gt, .inl (cI, 81, .inl (upd h1 t_53.toNatClampNeg (kt_tp a_105)))), (gg, .inl (cZ, 81, .inl (upd h2 t_53.toNatClampNeg (vp_nar .boolean gv)))), (gn, .inl (cI, 324, .inl (upd (upd (upd h3 t_149.toNatClampNeg v0) t_175.toNatClampNeg v1) t_205.toNatClampNeg v2))), (to, .inr (9, [.ref sg, .int ln, .int wd])), (sg, .inl (cI, 81, .inl fg))]) (fun u => [(6, .int ed), (5, .int t_53), (4, .int (nI j)), (3, .int (nI i)), (0, .ref gr), (1, .ref to), (2, .int p2)]) (fun u => [.int u, .int t_237, .ref gn]) (fun u => -1 ≤ u.toInt ∧ u.toInt ≤ 80) (D := D) (A := A) (H0 := s.heap) (fun u hI H locs hP hD hS ls hl => ?_) (fun j_251 => ?_)
                · obtain ⟨v3, rfl⟩ : ∃ z, z = u := ⟨_, rfl⟩
                  have hP : va_P D vwCl [(gr, .inr (0, [.ref gt, .ref gg, .ref gn, .int r_2, .int t_19])), (gt, .inl (cI, 81, .inl (upd h1 t_53.toNatClampNeg (kt_tp a_105)))), (gg, .inl (cZ, 81, .inl (upd h2 t_53.toNatClampNeg (vp_nar .boolean gv)))), (gn, .inl (cI, 324, .inl (upd (upd (upd h3 t_149.toNatClampNeg v0) t_175.toNatClampNeg v1) t_205.toNatClampNeg v2))), (to, .inr (9, [.ref sg, .int ln, .int wd])), (sg, .inl (cI, 81, .inl fg))] H := hP
                  have hD : va_D A [(gr, .inr (0, [.ref gt, .ref gg, .ref gn, .int r_2, .int t_19])), (gt, .inl (cI, 81, .inl (upd h1 t_53.toNatClampNeg (kt_tp a_105)))), (gg, .inl (cZ, 81, .inl (upd h2 t_53.toNatClampNeg (vp_nar .boolean gv)))), (gn, .inl (cI, 324, .inl (upd (upd (upd h3 t_149.toNatClampNeg v0) t_175.toNatClampNeg v1) t_205.toNatClampNeg v2))), (to, .inr (9, [.ref sg, .int ln, .int wd])), (sg, .inl (cI, 81, .inl fg))] := hD
                  have hl : lv_has ls 7 [(6, .int ed), (5, .int t_53), (4, .int (nI j)), (3, .int (nI i)), (0, .ref gr), (1, .ref to), (2, .int p2)] := hl
                  have hI : -1 ≤ v3.toInt ∧ v3.toInt ≤ 80 := hI
                  have hv3 := hI
                  have hi_7 : vp_in t_237 324 := by exact kt_in (by omega) (by omega)
                  refine va_iast hx hb hK hP hD hS 3 0 rfl rfl hi_7 dX0_lay_251 (fun H locs hP hD hS => ?_)
                  have hnb : kt_r (upd (upd (upd (upd h3 t_149.toNatClampNeg v0) t_175.toNatClampNeg v1) t_205.toNatClampNeg v2) t_237.toNatClampNeg v3) 324 (-1) 80 := hnb.upd (by omega) (by omega)
                  have hP : va_P D vwCl [(gr, .inr (0, [.ref gt, .ref gg, .ref gn, .int r_2, .int t_19])), (gt, .inl (cI, 81, .inl (upd h1 t_53.toNatClampNeg (kt_tp a_105)))), (gg, .inl (cZ, 81, .inl (upd h2 t_53.toNatClampNeg (vp_nar .boolean gv)))), (gn, .inl (cI, 324, .inl (upd (upd (upd (upd h3 t_149.toNatClampNeg v0) t_175.toNatClampNeg v1) t_205.toNatClampNeg v2) t_237.toNatClampNeg v3))), (to, .inr (9, [.ref sg, .int ln, .int wd])), (sg, .inl (cI, 81, .inl fg))] H := hP
                  have hD : va_D A [(gr, .inr (0, [.ref gt, .ref gg, .ref gn, .int r_2, .int t_19])), (gt, .inl (cI, 81, .inl (upd h1 t_53.toNatClampNeg (kt_tp a_105)))), (gg, .inl (cZ, 81, .inl (upd h2 t_53.toNatClampNeg (vp_nar .boolean gv)))), (gn, .inl (cI, 324, .inl (upd (upd (upd (upd h3 t_149.toNatClampNeg v0) t_175.toNatClampNeg v1) t_205.toNatClampNeg v2) t_237.toNatClampNeg v3))), (to, .inr (9, [.ref sg, .int ln, .int wd])), (sg, .inl (cI, 81, .inl fg))] := hD
                  refine lv_iinc (v := nI (j + 1)) (lv' := [(4, .int (nI (j + 1))), (6, .int ed), (5, .int t_53), (3, .int (nI i)), (0, .ref gr), (1, .ref to), (2, .int p2)]) hx hb dX0_lay_252 hl (k := 2) rfl (nI_1 _) (by decide) rfl (fun ls hl => ?_)
                  refine lv_goto (tgt := 36) hx hb dX0_lay_255 (by decide) ?_
                  exact ih_36 ((j + 1), (upd h1 t_53.toNatClampNeg (kt_tp a_105)), (upd h2 t_53.toNatClampNeg (vp_nar .boolean gv)), (upd (upd (upd (upd h3 t_149.toNatClampNeg v0) t_175.toNatClampNeg v1) t_205.toNatClampNeg v2) t_237.toNatClampNeg v3)) (by show ((j + 1) ≤ 9 ∧ 9 < (j + 1) + n_36 ∧ ((j + 1) : Int) ≤ wd.toInt) ∧ kt_r (upd h1 t_53.toNatClampNeg (kt_tp a_105)) 81 0 2 ∧ kt_r (upd h2 t_53.toNatClampNeg (vp_nar .boolean gv)) 81 0 1 ∧ kt_r (upd (upd (upd (upd h3 t_149.toNatClampNeg v0) t_175.toNatClampNeg v1) t_205.toNatClampNeg v2) t_237.toNatClampNeg v3) 324 (-1) 80; exact ⟨by omega, hgt, hgg, hnb⟩) H _ hP hD hS ls (lv_sub hl [0, 3, 4, 5, 6] rfl)
                refine lv_if_le (tgt := 250) hx hb dX0_lay_240 (by decide) (fun c_240 => ?_) (fun c_240 => ?_)
                · have d_240 := c_240
                  simp only [kt_lt, kt_le, kt_eq, kt_c0, kt_c1, kt_c2, kt_c3, kt_c4, kt_c8, kt_c9, kt_cm1, kt_c81, kt_c40, kt_c7, kt_c5, kt_c6, kt_c512, kt_c10, kt_c10000] at d_240
                  refine lv_iconst (v := (-1)) hx hb dX0_lay_250 (by decide) ?_
                  exact j_251 (-1 : Int32) (by show -1 ≤ (-1 : Int32).toInt ∧ (-1 : Int32).toInt ≤ 80; first | decide | omega) H _ hP hD hS ls (lv_sub hl [0, 1, 2, 3, 4, 5, 6] rfl)
                · have d_240 := c_240
                  simp only [kt_lt, kt_le, kt_eq, kt_c0, kt_c1, kt_c2, kt_c3, kt_c4, kt_c8, kt_c9, kt_cm1, kt_c81, kt_c40, kt_c7, kt_c5, kt_c6, kt_c512, kt_c10, kt_c10000] at d_240
                  refine lv_iload hx hb dX0_lay_243 (lv_at hl 1 rfl) ?_
                  refine lv_iconst (v := 1) hx hb dX0_lay_245 (by decide) ?_
                  refine lv_isub hx hb dX0_lay_246 ?_
                  refine lv_topi (fun t_246 et_246 => ?_)
                  obtain ⟨k_246, hk_246, hm_246, hM_246⟩ := kt_subk et_246
                  try simp only [kt_c0, kt_c1, kt_c2, kt_c3, kt_c4, kt_c8, kt_c9, kt_cm1, kt_c81, kt_c40, kt_c7, kt_c5, kt_c6, kt_c512, kt_c10, kt_c10000] at hk_246
                  refine lv_goto (tgt := 251) hx hb dX0_lay_247 (by decide) ?_
                  exact j_251 t_246 (by show -1 ≤ t_246.toInt ∧ t_246.toInt ≤ 80; first | decide | omega) H _ hP hD hS ls (lv_sub hl [0, 1, 2, 3, 4, 5, 6] rfl)
              refine lv_icmp_ge (tgt := 226) hx hb dX0_lay_213 (by decide) (fun c_213 => ?_) (fun c_213 => ?_)
              · have d_213 := c_213
                simp only [kt_lt, kt_le, kt_eq, kt_c0, kt_c1, kt_c2, kt_c3, kt_c4, kt_c8, kt_c9, kt_cm1, kt_c81, kt_c40, kt_c7, kt_c5, kt_c6, kt_c512, kt_c10, kt_c10000] at d_213
                refine lv_iconst (v := (-1)) hx hb dX0_lay_226 (by decide) ?_
                exact j_227 (-1 : Int32) (by show -1 ≤ (-1 : Int32).toInt ∧ (-1 : Int32).toInt ≤ 80; first | decide | omega) H _ hP hD hS ls (lv_sub hl [0, 1, 2, 3, 4, 5, 6] rfl)
              · have d_213 := c_213
                simp only [kt_lt, kt_le, kt_eq, kt_c0, kt_c1, kt_c2, kt_c3, kt_c4, kt_c8, kt_c9, kt_cm1, kt_c81, kt_c40, kt_c7, kt_c5, kt_c6, kt_c512, kt_c10, kt_c10000] at d_213
                refine lv_iload hx hb dX0_lay_216 (lv_at hl 1 rfl) ?_
                refine lv_aload_n hx hb dX0_lay_218 rfl (lv_at hl 5 rfl) ?_
                refine va_getN (D := D) (ci := 9) (C := RX9) (T := TX9) (N := 3) hx hb hts iw_X0_lay_X9 hown hK hP 4 rfl rfl 2 (by decide) (va_Nw.use (w := .fieldLinkNest RX0 34 "KingTable$Told" "width" "I" "KingTable") rfl (hN _ (by decide +kernel))) (fun _ h9 => h9) rfl dX0_lay_219 ?_
                refine lv_iadd hx hb dX0_lay_222 ?_
                refine lv_topi (fun t_222 et_222 => ?_)
                obtain ⟨k_222, hk_222, hm_222, hM_222⟩ := kt_addk et_222
                refine lv_goto (tgt := 227) hx hb dX0_lay_223 (by decide) ?_
                exact j_227 t_222 (by show -1 ≤ t_222.toInt ∧ t_222.toInt ≤ 80; first | decide | omega) H _ hP hD hS ls (lv_sub hl [0, 1, 2, 3, 4, 5, 6] rfl)
            refine lv_icmp_ge (tgt := 194) hx hb dX0_lay_184 (by decide) (fun c_184 => ?_) (fun c_184 => ?_)
            · have d_184 := c_184
              simp only [kt_lt, kt_le, kt_eq, kt_c0, kt_c1, kt_c2, kt_c3, kt_c4, kt_c8, kt_c9, kt_cm1, kt_c81, kt_c40, kt_c7, kt_c5, kt_c6, kt_c512, kt_c10, kt_c10000] at d_184
              refine lv_iconst (v := (-1)) hx hb dX0_lay_194 (by decide) ?_
              exact j_195 (-1 : Int32) (by show -1 ≤ (-1 : Int32).toInt ∧ (-1 : Int32).toInt ≤ 80; first | decide | omega) H _ hP hD hS ls (lv_sub hl [0, 1, 2, 3, 4, 5, 6] rfl)
            · have d_184 := c_184
              simp only [kt_lt, kt_le, kt_eq, kt_c0, kt_c1, kt_c2, kt_c3, kt_c4, kt_c8, kt_c9, kt_cm1, kt_c81, kt_c40, kt_c7, kt_c5, kt_c6, kt_c512, kt_c10, kt_c10000] at d_184
              refine lv_iload hx hb dX0_lay_187 (lv_at hl 1 rfl) ?_
              refine lv_iconst (v := 1) hx hb dX0_lay_189 (by decide) ?_
              refine lv_iadd hx hb dX0_lay_190 ?_
              refine lv_topi (fun t_190 et_190 => ?_)
              obtain ⟨k_190, hk_190, hm_190, hM_190⟩ := kt_addk et_190
              try simp only [kt_c0, kt_c1, kt_c2, kt_c3, kt_c4, kt_c8, kt_c9, kt_cm1, kt_c81, kt_c40, kt_c7, kt_c5, kt_c6, kt_c512, kt_c10, kt_c10000] at hk_190
              refine lv_goto (tgt := 195) hx hb dX0_lay_191 (by decide) ?_
              exact j_195 t_190 (by show -1 ≤ t_190.toInt ∧ t_190.toInt ≤ 80; first | decide | omega) H _ hP hD hS ls (lv_sub hl [0, 1, 2, 3, 4, 5, 6] rfl)
          refine lv_if_le (tgt := 164) hx hb dX0_lay_151 (by decide) (fun c_151 => ?_) (fun c_151 => ?_)
          · have d_151 := c_151
            simp only [kt_lt, kt_le, kt_eq, kt_c0, kt_c1, kt_c2, kt_c3, kt_c4, kt_c8, kt_c9, kt_cm1, kt_c81, kt_c40, kt_c7, kt_c5, kt_c6, kt_c512, kt_c10, kt_c10000] at d_151
            refine lv_iconst (v := (-1)) hx hb dX0_lay_164 (by decide) ?_
            exact j_165 (-1 : Int32) (by show -1 ≤ (-1 : Int32).toInt ∧ (-1 : Int32).toInt ≤ 80; first | decide | omega) H _ hP hD hS ls (lv_sub hl [0, 1, 2, 3, 4, 5, 6] rfl)
          · have d_151 := c_151
            simp only [kt_lt, kt_le, kt_eq, kt_c0, kt_c1, kt_c2, kt_c3, kt_c4, kt_c8, kt_c9, kt_cm1, kt_c81, kt_c40, kt_c7, kt_c5, kt_c6, kt_c512, kt_c10, kt_c10000] at d_151
            refine lv_iload hx hb dX0_lay_154 (lv_at hl 1 rfl) ?_
            refine lv_aload_n hx hb dX0_lay_156 rfl (lv_at hl 5 rfl) ?_
            refine va_getN (D := D) (ci := 9) (C := RX9) (T := TX9) (N := 3) hx hb hts iw_X0_lay_X9 hown hK hP 4 rfl rfl 2 (by decide) (va_Nw.use (w := .fieldLinkNest RX0 34 "KingTable$Told" "width" "I" "KingTable") rfl (hN _ (by decide +kernel))) (fun _ h9 => h9) rfl dX0_lay_157 ?_
            refine lv_isub hx hb dX0_lay_160 ?_
            refine lv_topi (fun t_160 et_160 => ?_)
            obtain ⟨k_160, hk_160, hm_160, hM_160⟩ := kt_subk et_160
            refine lv_goto (tgt := 165) hx hb dX0_lay_161 (by decide) ?_
            exact j_165 t_160 (by show -1 ≤ t_160.toInt ∧ t_160.toInt ≤ 80; first | decide | omega) H _ hP hD hS ls (lv_sub hl [0, 1, 2, 3, 4, 5, 6] rfl)
        refine lv_if_ne (tgt := 139) hx hb dX0_lay_117 (by decide) (fun c_117 => ?_) (fun c_117 => ?_)
        · have d_117 := c_117
          simp only [kt_lt, kt_le, kt_eq, kt_c0, kt_c1, kt_c2, kt_c3, kt_c4, kt_c8, kt_c9, kt_cm1, kt_c81, kt_c40, kt_c7, kt_c5, kt_c6, kt_c512, kt_c10, kt_c10000] at d_117
          refine lv_iload hx hb dX0_lay_139 (lv_at hl 0 rfl) ?_
          exact j_141 ed (by show 0 ≤ ed.toInt ∧ ed.toInt ≤ 1; first | decide | omega) H _ hP hD hS ls (lv_sub hl [0, 1, 2, 3, 4, 5, 6] rfl)
        · have d_117 := c_117
          simp only [kt_lt, kt_le, kt_eq, kt_c0, kt_c1, kt_c2, kt_c3, kt_c4, kt_c8, kt_c9, kt_cm1, kt_c81, kt_c40, kt_c7, kt_c5, kt_c6, kt_c512, kt_c10, kt_c10000] at d_117
          refine lv_aload_n hx hb dX0_lay_120 rfl (lv_at hl 4 rfl) ?_
          refine va_get (D := D) (ci := 0) (C := RX0) (T := TX0) (N := 5) hx hb hts iw_X0_lay_X0 hown hK hP 0 rfl rfl 0 (by decide) (hts (.fieldLink RX0 9 "KingTable$Ground" "types" "[I") (List.mem_cons_of_mem _ (List.mem_append_left _ (List.mem_append_left _ (List.mem_cons_of_mem _ (List.mem_cons_of_mem _ (List.Mem.head _))))))) (fun _ h9 => h9) rfl dX0_lay_121 ?_
          refine lv_iload hx hb dX0_lay_124 (lv_at hl 1 rfl) ?_
          have hi_8 : vp_in t_53 81 := by exact kt_in (by omega) (by omega)
          refine va_iald hx hb hK hP 1 0 rfl rfl hi_8 dX0_lay_126 ?_
          refine lv_topi (fun a_126 ea_126 => ?_)
          have ra_126 := hgt.get hi_8
          rw [← ea_126] at ra_126
          refine lv_iconst (v := 2) hx hb dX0_lay_127 (by decide) ?_
          refine lv_icmp_ne (tgt := 135) hx hb dX0_lay_128 (by decide) (fun c_128 => ?_) (fun c_128 => ?_)
          · have d_128 := c_128
            simp only [kt_lt, kt_le, kt_eq, kt_c0, kt_c1, kt_c2, kt_c3, kt_c4, kt_c8, kt_c9, kt_cm1, kt_c81, kt_c40, kt_c7, kt_c5, kt_c6, kt_c512, kt_c10, kt_c10000] at d_128
            refine lv_iconst (v := 0) hx hb dX0_lay_135 (by decide) ?_
            refine lv_goto (tgt := 141) hx hb dX0_lay_136 (by decide) ?_
            exact j_141 (0 : Int32) (by show 0 ≤ (0 : Int32).toInt ∧ (0 : Int32).toInt ≤ 1; first | decide | omega) H _ hP hD hS ls (lv_sub hl [0, 1, 2, 3, 4, 5, 6] rfl)
          · have d_128 := c_128
            simp only [kt_lt, kt_le, kt_eq, kt_c0, kt_c1, kt_c2, kt_c3, kt_c4, kt_c8, kt_c9, kt_cm1, kt_c81, kt_c40, kt_c7, kt_c5, kt_c6, kt_c512, kt_c10, kt_c10000] at d_128
            refine lv_iconst (v := 1) hx hb dX0_lay_131 (by decide) ?_
            refine lv_goto (tgt := 141) hx hb dX0_lay_132 (by decide) ?_
            exact j_141 (1 : Int32) (by show 0 ≤ (1 : Int32).toInt ∧ (1 : Int32).toInt ≤ 1; first | decide | omega) H _ hP hD hS ls (lv_sub hl [0, 1, 2, 3, 4, 5, 6] rfl)
      refine lv_if_eq (tgt := 86) hx hb dX0_lay_57 (by decide) (fun c_57 => ?_) (fun c_57 => ?_)
      · have d_57 := c_57
        simp only [kt_lt, kt_le, kt_eq, kt_c0, kt_c1, kt_c2, kt_c3, kt_c4, kt_c8, kt_c9, kt_cm1, kt_c81, kt_c40, kt_c7, kt_c5, kt_c6, kt_c512, kt_c10, kt_c10000] at d_57
        refine lv_iconst (v := 1) hx hb dX0_lay_86 (by decide) ?_
        refine lv_goto (tgt := 91) hx hb dX0_lay_87 (by decide) ?_
        exact j_91 (1 : Int32) (by show 0 ≤ (1 : Int32).toInt ∧ (1 : Int32).toInt ≤ 1; decide) H _ hP hD hS ls (lv_sub hl [0, 1, 2, 3, 4, 5] rfl)
      · have d_57 := c_57
        simp only [kt_lt, kt_le, kt_eq, kt_c0, kt_c1, kt_c2, kt_c3, kt_c4, kt_c8, kt_c9, kt_cm1, kt_c81, kt_c40, kt_c7, kt_c5, kt_c6, kt_c512, kt_c10, kt_c10000] at d_57
        refine lv_iload hx hb dX0_lay_60 (lv_at hl 1 rfl) ?_
        refine lv_if_eq (tgt := 86) hx hb dX0_lay_62 (by decide) (fun c_62 => ?_) (fun c_62 => ?_)
        · have d_62 := c_62
          simp only [kt_lt, kt_le, kt_eq, kt_c0, kt_c1, kt_c2, kt_c3, kt_c4, kt_c8, kt_c9, kt_cm1, kt_c81, kt_c40, kt_c7, kt_c5, kt_c6, kt_c512, kt_c10, kt_c10000] at d_62
          refine lv_iconst (v := 1) hx hb dX0_lay_86 (by decide) ?_
          refine lv_goto (tgt := 91) hx hb dX0_lay_87 (by decide) ?_
          exact j_91 (1 : Int32) (by show 0 ≤ (1 : Int32).toInt ∧ (1 : Int32).toInt ≤ 1; decide) H _ hP hD hS ls (lv_sub hl [0, 1, 2, 3, 4, 5] rfl)
        · have d_62 := c_62
          simp only [kt_lt, kt_le, kt_eq, kt_c0, kt_c1, kt_c2, kt_c3, kt_c4, kt_c8, kt_c9, kt_cm1, kt_c81, kt_c40, kt_c7, kt_c5, kt_c6, kt_c512, kt_c10, kt_c10000] at d_62
          refine lv_iload_n hx hb dX0_lay_65 rfl (lv_at hl 2 rfl) ?_
          refine lv_aload_n hx hb dX0_lay_66 rfl (lv_at hl 4 rfl) ?_
          refine va_getN (D := D) (ci := 9) (C := RX9) (T := TX9) (N := 3) hx hb hts iw_X0_lay_X9 hown hK hP 4 rfl rfl 1 (by decide) (va_Nw.use (w := .fieldLinkNest RX0 31 "KingTable$Told" "lines" "I" "KingTable") rfl (hN _ (by decide +kernel))) (fun _ h9 => h9) rfl dX0_lay_67 ?_
          refine lv_iconst (v := 1) hx hb dX0_lay_70 (by decide) ?_
          refine lv_isub hx hb dX0_lay_71 ?_
          refine lv_topi (fun t_71 et_71 => ?_)
          obtain ⟨k_71, hk_71, hm_71, hM_71⟩ := kt_subk et_71
          try simp only [kt_c0, kt_c1, kt_c2, kt_c3, kt_c4, kt_c8, kt_c9, kt_cm1, kt_c81, kt_c40, kt_c7, kt_c5, kt_c6, kt_c512, kt_c10, kt_c10000] at hk_71
          refine lv_icmp_eq (tgt := 86) hx hb dX0_lay_72 (by decide) (fun c_72 => ?_) (fun c_72 => ?_)
          · have d_72 := c_72
            simp only [kt_lt, kt_le, kt_eq, kt_c0, kt_c1, kt_c2, kt_c3, kt_c4, kt_c8, kt_c9, kt_cm1, kt_c81, kt_c40, kt_c7, kt_c5, kt_c6, kt_c512, kt_c10, kt_c10000] at d_72
            refine lv_iconst (v := 1) hx hb dX0_lay_86 (by decide) ?_
            refine lv_goto (tgt := 91) hx hb dX0_lay_87 (by decide) ?_
            exact j_91 (1 : Int32) (by show 0 ≤ (1 : Int32).toInt ∧ (1 : Int32).toInt ≤ 1; decide) H _ hP hD hS ls (lv_sub hl [0, 1, 2, 3, 4, 5] rfl)
          · have d_72 := c_72
            simp only [kt_lt, kt_le, kt_eq, kt_c0, kt_c1, kt_c2, kt_c3, kt_c4, kt_c8, kt_c9, kt_cm1, kt_c81, kt_c40, kt_c7, kt_c5, kt_c6, kt_c512, kt_c10, kt_c10000] at d_72
            refine lv_iload hx hb dX0_lay_75 (lv_at hl 1 rfl) ?_
            refine lv_aload_n hx hb dX0_lay_77 rfl (lv_at hl 4 rfl) ?_
            refine va_getN (D := D) (ci := 9) (C := RX9) (T := TX9) (N := 3) hx hb hts iw_X0_lay_X9 hown hK hP 4 rfl rfl 2 (by decide) (va_Nw.use (w := .fieldLinkNest RX0 34 "KingTable$Told" "width" "I" "KingTable") rfl (hN _ (by decide +kernel))) (fun _ h9 => h9) rfl dX0_lay_78 ?_
            refine lv_iconst (v := 1) hx hb dX0_lay_81 (by decide) ?_
            refine lv_isub hx hb dX0_lay_82 ?_
            refine lv_topi (fun t_82 et_82 => ?_)
            obtain ⟨k_82, hk_82, hm_82, hM_82⟩ := kt_subk et_82
            try simp only [kt_c0, kt_c1, kt_c2, kt_c3, kt_c4, kt_c8, kt_c9, kt_cm1, kt_c81, kt_c40, kt_c7, kt_c5, kt_c6, kt_c512, kt_c10, kt_c10000] at hk_82
            refine lv_icmp_ne (tgt := 90) hx hb dX0_lay_83 (by decide) (fun c_83 => ?_) (fun c_83 => ?_)
            · have d_83 := c_83
              simp only [kt_lt, kt_le, kt_eq, kt_c0, kt_c1, kt_c2, kt_c3, kt_c4, kt_c8, kt_c9, kt_cm1, kt_c81, kt_c40, kt_c7, kt_c5, kt_c6, kt_c512, kt_c10, kt_c10000] at d_83
              refine lv_iconst (v := 0) hx hb dX0_lay_90 (by decide) ?_
              exact j_91 (0 : Int32) (by show 0 ≤ (0 : Int32).toInt ∧ (0 : Int32).toInt ≤ 1; decide) H _ hP hD hS ls (lv_sub hl [0, 1, 2, 3, 4, 5] rfl)
            · have d_83 := c_83
              simp only [kt_lt, kt_le, kt_eq, kt_c0, kt_c1, kt_c2, kt_c3, kt_c4, kt_c8, kt_c9, kt_cm1, kt_c81, kt_c40, kt_c7, kt_c5, kt_c6, kt_c512, kt_c10, kt_c10000] at d_83
              refine lv_iconst (v := 1) hx hb dX0_lay_86 (by decide) ?_
              refine lv_goto (tgt := 91) hx hb dX0_lay_87 (by decide) ?_
              exact j_91 (1 : Int32) (by show 0 ≤ (1 : Int32).toInt ∧ (1 : Int32).toInt ≤ 1; decide) H _ hP hD hS ls (lv_sub hl [0, 1, 2, 3, 4, 5] rfl)
