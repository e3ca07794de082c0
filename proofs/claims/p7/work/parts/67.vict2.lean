set_option maxHeartbeats 4000000 in
set_option maxRecDepth 100000 in
theorem c_X6_isFoeE (l : Launch) (D : va_G) (cI cZ cB : ClassId) (sz : Nat) (ru : Nat) (la : Nat) (gr : Nat) (rk : Nat) (rs : Nat) (rt : Nat) (rv : Nat) (tt : Int32) (kg : Int32) (vc : Int32) (lg : Int32) (lh : Int32) (lt : Int32) (lr : Int32) (lc : Int32) (gt : Nat) (gg : Nat) (gn : Nat) (gs : Int32) (gm : Int32) (tg : Nat → Int32) (nb : Nat → Int32) (nw : Nat) (sf : Nat) (sh : Nat) (tu : Int32) (ff : Nat → Int32) (fh : Nat → Int32) (fk : Nat → Int32) (fs : Nat → Int32) (ft : Nat → Int32) (w_ : Int) (L_ : Int) (P_ : Nat) (gl : Nat → Int32) (fr : Nat → Int32) (ck : Nat → Int32) (q_ : Nat) (p1 : Int32) (p2 : Int32) (hgs : 0 ≤ gs.toInt ∧ gs.toInt ≤ 81) (hgt : kt_r tg 81 0 2) (htt : 0 ≤ tt.toInt ∧ tt.toInt ≤ 40) (hfh : kt_r fh 81 (-1) 39) (hrs : kt_r fs 40 0 1) (hrt : kt_r ft 40 0 1) (hrx : kt_RX w_ L_ P_ tt kg gs lg lt tg gl nb fk fs ft fr ck) (hfo : kt_r fh 81 (-1) ((P_ : Int) - 1)) (hp1 : -1 ≤ p1.toInt ∧ p1.toInt < L_ * w_) (hp2 : p2.toInt = 1 - kt_side (fk q_)) : kt_Mi l yX6_isFoe wsX6_isFoe { frames := 0, cells := 0, slots := 0, locals := 0 } D (kt_ty cI cZ cB) [.ref ru, .ref nw, .int p1, .int p2] sz [(ru, .inr (6, [.ref la, .ref gr, .ref rk, .ref rs, .ref rt, .int tt, .int kg, .ref rv, .int vc])), (gr, .inr (0, [.ref gt, .ref gg, .ref gn, .int gs, .int gm])), (gt, .inl (cI, 81, .inl tg)), (nw, .inr (8, [.ref sf, .ref sh, .int tu])), (sh, .inl (cI, 81, .inl fh)), (rs, .inl (cI, 40, .inl fs)), (rt, .inl (cZ, 40, .inl ft))] (fun (r : Int32) (u : Unit) => kt_B r (kt_foe fh fr fk lt q_ p1.toInt)) (fun (u : Unit) => [(ru, .inr (6, [.ref la, .ref gr, .ref rk, .ref rs, .ref rt, .int tt, .int kg, .ref rv, .int vc])), (gr, .inr (0, [.ref gt, .ref gg, .ref gn, .int gs, .int gm])), (gt, .inl (cI, 81, .inl tg)), (nw, .inr (8, [.ref sf, .ref sh, .int tu])), (sh, .inl (cI, 81, .inl fh)), (rs, .inl (cI, 40, .inl fs)), (rt, .inl (cZ, 40, .inl ft))]) 0 0 := by
  refine kt_Mi.of (cc := cX6_isFoe) (maxL := 5) (ret := some .boolean) (by decide) rfl (Nat.le_of_ble_eq_true rfl) ?_
  intro p e s m below meth c A ls H hAt hP hD hS hl
  obtain ⟨hx, hb, hr, hml, hown, hts, hN, hK, hlk, hnm, hA⟩ := hAt
  have hl : lv_has ls 5 [(0, .ref ru), (1, .ref nw), (2, .int p1), (3, .int p2)] := hl
  have hown : s.vm.findClass RX6 = some m.cls := hown
  obtain ⟨hgx, hnx, htf, ⟨htP, hP40⟩, hsd_, hkq, hck, hkr⟩ := hrx
  have hgx1 := hgx.1
  have hw_ := hgx.2.1
  have hL_ := hgx.2.2
  have httP : tt.toInt = (P_ : Int) := by rw [htP, kt_nI (by omega)]
  have hsq : kt_side (fk q_) = 0 ∨ kt_side (fk q_) = 1 := by unfold kt_side; split; exact Or.inr rfl; exact Or.inl rfl
  refine lv_iload_n hx hb dX6_isFoe_0 rfl (lv_at hl 2 rfl) ?_
  refine lv_if_lt (tgt := 15) hx hb dX6_isFoe_1 (by decide) (fun c_1 => ?_) (fun c_1 => ?_)
  · have d_1 := c_1
    simp only [kt_lt, kt_le, kt_eq, kt_c0, kt_c1, kt_c2, kt_c3, kt_c4, kt_c8, kt_c9, kt_cm1, kt_c81, kt_c40, kt_c7, kt_c5, kt_c6, kt_c512, kt_c10, kt_c10000] at d_1
    refine lv_iconst (v := 0) hx hb dX6_isFoe_15 (by decide) ?_
    exact kt_rz () hx hb hr hlk hS dX6_isFoe_16 hP hD (by show kt_B (0 : Int32) (kt_foe fh fr fk lt q_ p1.toInt); first
         | exact Or.inr ⟨rfl, fun h => h.1 (by omega)⟩
         | exact Or.inl ⟨rfl, by omega, Or.inl ⟨hm1, h6.mp c_49⟩⟩
         | exact Or.inr ⟨rfl, fun h => h.2.elim (fun h1 => c_49 (h6.mpr h1.2)) (fun h2 => h2.1 hm1)⟩
         | exact Or.inl ⟨rfl, by omega, Or.inr ⟨hnn, by rw [← e22]; show ¬ kt_side (fk a_22.toInt.toNat) = _; omega, by rw [← e22]; exact ht75.mp c_76⟩⟩
         | exact Or.inr ⟨rfl, fun h => h.2.elim (fun h1 => hnn h1.1) (fun h2 => by have h3 := h2.2.1; rw [← e22] at h3; have h4 : ¬ kt_side (fk a_22.toInt.toNat) = kt_side (fk q_) := h3; omega)⟩
         | exact Or.inr ⟨rfl, fun h => h.2.elim (fun h1 => hnn h1.1) (fun h2 => by have h3 := h2.2.2; rw [← e22] at h3; exact (ht75.mpr h3) c_76)⟩) rfl
  · have d_1 := c_1
    simp only [kt_lt, kt_le, kt_eq, kt_c0, kt_c1, kt_c2, kt_c3, kt_c4, kt_c8, kt_c9, kt_cm1, kt_c81, kt_c40, kt_c7, kt_c5, kt_c6, kt_c512, kt_c10, kt_c10000] at d_1
    refine lv_iload_n hx hb dX6_isFoe_4 rfl (lv_at hl 2 rfl) ?_
    refine lv_aload_n hx hb dX6_isFoe_5 rfl (lv_at hl 0 rfl) ?_
    refine va_get (D := D) (ci := 6) (C := RX6) (T := TX6) (N := 9) hx hb hts iw_X6_isFoe_X6 hown hK hP 0 rfl rfl 1 (by decide) (hts (.fieldLink RX6 12 "KingTable$Rules" "ground" "LKingTable$Ground;") (List.mem_cons_of_mem _ (List.mem_append_left _ (List.mem_append_left _ (List.mem_append_left _ (List.Mem.head _)))))) (fun _ h9 => h9) rfl dX6_isFoe_6 ?_
    refine va_getN (D := D) (ci := 0) (C := RX0) (T := TX0) (N := 5) hx hb hts iw_X6_isFoe_X0 hown hK hP 1 rfl rfl 3 (by decide) (va_Nw.use (w := .fieldLinkNest RX6 49 "KingTable$Ground" "size" "I" "KingTable") rfl (hN _ (by decide +kernel))) (fun _ h9 => h9) rfl dX6_isFoe_9 ?_
    refine lv_icmp_lt (tgt := 17) hx hb dX6_isFoe_12 (by decide) (fun c_12 => ?_) (fun c_12 => ?_)
    · have d_12 := c_12
      simp only [kt_lt, kt_le, kt_eq, kt_c0, kt_c1, kt_c2, kt_c3, kt_c4, kt_c8, kt_c9, kt_cm1, kt_c81, kt_c40, kt_c7, kt_c5, kt_c6, kt_c512, kt_c10, kt_c10000] at d_12
      refine lv_aload_n hx hb dX6_isFoe_17 rfl (lv_at hl 1 rfl) ?_
      refine va_getN (D := D) (ci := 8) (C := RX8) (T := TX8) (N := 3) hx hb hts iw_X6_isFoe_X8 hown hK hP 3 rfl rfl 1 (by decide) (va_Nw.use (w := .fieldLinkNest RX6 117 "KingTable$Stand" "holders" "[I" "KingTable") rfl (hN _ (by decide +kernel))) (fun _ h9 => h9) rfl dX6_isFoe_18 ?_
      refine lv_iload_n hx hb dX6_isFoe_21 rfl (lv_at hl 2 rfl) ?_
      have hi_1 : vp_in p1 81 := by exact kt_in (by omega) (by omega)
      refine va_iald hx hb hK hP 4 0 rfl rfl hi_1 dX6_isFoe_22 ?_
      refine lv_topi (fun a_22 ea_22 => ?_)
      have ra_22 := hfh.get hi_1
      rw [← ea_22] at ra_22
      have e22 : a_22 = fh p1.toInt.toNat := ea_22
      have hfq := hfo p1.toInt.toNat (by omega)
      rw [← e22] at hfq
      refine lv_istore (lv' := [(4, .int a_22), (0, .ref ru), (1, .ref nw), (2, .int p1), (3, .int p2)]) hx hb dX6_isFoe_23 hl (by decide) rfl (fun ls hl => ?_)
      refine lv_iload hx hb dX6_isFoe_25 (lv_at hl 0 rfl) ?_
      refine lv_if_lt (tgt := 39) hx hb dX6_isFoe_27 (by decide) (fun c_27 => ?_) (fun c_27 => ?_)
      · have d_27 := c_27
        simp only [kt_lt, kt_le, kt_eq, kt_c0, kt_c1, kt_c2, kt_c3, kt_c4, kt_c8, kt_c9, kt_cm1, kt_c81, kt_c40, kt_c7, kt_c5, kt_c6, kt_c512, kt_c10, kt_c10000] at d_27
        refine lv_aload_n hx hb dX6_isFoe_39 rfl (lv_at hl 1 rfl) ?_
        refine va_get (D := D) (ci := 6) (C := RX6) (T := TX6) (N := 9) hx hb hts iw_X6_isFoe_X6 hown hK hP 0 rfl rfl 1 (by decide) (hts (.fieldLink RX6 12 "KingTable$Rules" "ground" "LKingTable$Ground;") (List.mem_cons_of_mem _ (List.mem_append_left _ (List.mem_append_left _ (List.mem_append_left _ (List.Mem.head _)))))) (fun _ h9 => h9) rfl dX6_isFoe_40 ?_
        refine va_getN (D := D) (ci := 0) (C := RX0) (T := TX0) (N := 5) hx hb hts iw_X6_isFoe_X0 hown hK hP 1 rfl rfl 0 (by decide) (va_Nw.use (w := .fieldLinkNest RX6 52 "KingTable$Ground" "types" "[I" "KingTable") rfl (hN _ (by decide +kernel))) (fun _ h9 => h9) rfl dX6_isFoe_43 ?_
        refine lv_iload_n hx hb dX6_isFoe_46 rfl (lv_at hl 3 rfl) ?_
        have hi_2 : vp_in p1 81 := by exact kt_in (by omega) (by omega)
        refine va_iald hx hb hK hP 2 0 rfl rfl hi_2 dX6_isFoe_47 ?_
        refine lv_topi (fun a_47 ea_47 => ?_)
        have ra_47 := hgt.get hi_2
        rw [← ea_47] at ra_47
        have h6 := (htf p1.toInt.toNat (by omega)).2.1
        have e47 : a_47 = tg p1.toInt.toNat := ea_47
        rw [← e47] at h6
        have hm1 : fh p1.toInt.toNat = -1 := by rw [← e22]; exact (kt_eq _ _).mpr (by rw [kt_cm1]; omega)
        refine lv_iconst (v := 2) hx hb dX6_isFoe_48 (by decide) ?_
        refine lv_icmp_ne (tgt := 56) hx hb dX6_isFoe_49 (by decide) (fun c_49 => ?_) (fun c_49 => ?_)
        · have d_49 := c_49
          simp only [kt_lt, kt_le, kt_eq, kt_c0, kt_c1, kt_c2, kt_c3, kt_c4, kt_c8, kt_c9, kt_cm1, kt_c81, kt_c40, kt_c7, kt_c5, kt_c6, kt_c512, kt_c10, kt_c10000] at d_49
          refine lv_iconst (v := 0) hx hb dX6_isFoe_56 (by decide) ?_
          exact kt_rz () hx hb hr hlk hS dX6_isFoe_57 hP hD (by show kt_B (0 : Int32) (kt_foe fh fr fk lt q_ p1.toInt); first
               | exact Or.inr ⟨rfl, fun h => h.1 (by omega)⟩
               | exact Or.inl ⟨rfl, by omega, Or.inl ⟨hm1, h6.mp c_49⟩⟩
               | exact Or.inr ⟨rfl, fun h => h.2.elim (fun h1 => c_49 (h6.mpr h1.2)) (fun h2 => h2.1 hm1)⟩
               | exact Or.inl ⟨rfl, by omega, Or.inr ⟨hnn, by rw [← e22]; show ¬ kt_side (fk a_22.toInt.toNat) = _; omega, by rw [← e22]; exact ht75.mp c_76⟩⟩
               | exact Or.inr ⟨rfl, fun h => h.2.elim (fun h1 => hnn h1.1) (fun h2 => by have h3 := h2.2.1; rw [← e22] at h3; have h4 : ¬ kt_side (fk a_22.toInt.toNat) = kt_side (fk q_) := h3; omega)⟩
               | exact Or.inr ⟨rfl, fun h => h.2.elim (fun h1 => hnn h1.1) (fun h2 => by have h3 := h2.2.2; rw [← e22] at h3; exact (ht75.mpr h3) c_76)⟩) rfl
        · have d_49 := c_49
          simp only [kt_lt, kt_le, kt_eq, kt_c0, kt_c1, kt_c2, kt_c3, kt_c4, kt_c8, kt_c9, kt_cm1, kt_c81, kt_c40, kt_c7, kt_c5, kt_c6, kt_c512, kt_c10, kt_c10000] at d_49
          refine lv_iconst (v := 1) hx hb dX6_isFoe_52 (by decide) ?_
          refine lv_goto (tgt := 57) hx hb dX6_isFoe_53 (by decide) ?_
          exact kt_rz () hx hb hr hlk hS dX6_isFoe_57 hP hD (by show kt_B (1 : Int32) (kt_foe fh fr fk lt q_ p1.toInt); first
               | exact Or.inr ⟨rfl, fun h => h.1 (by omega)⟩
               | exact Or.inl ⟨rfl, by omega, Or.inl ⟨hm1, h6.mp c_49⟩⟩
               | exact Or.inr ⟨rfl, fun h => h.2.elim (fun h1 => c_49 (h6.mpr h1.2)) (fun h2 => h2.1 hm1)⟩
               | exact Or.inl ⟨rfl, by omega, Or.inr ⟨hnn, by rw [← e22]; show ¬ kt_side (fk a_22.toInt.toNat) = _; omega, by rw [← e22]; exact ht75.mp c_76⟩⟩
               | exact Or.inr ⟨rfl, fun h => h.2.elim (fun h1 => hnn h1.1) (fun h2 => by have h3 := h2.2.1; rw [← e22] at h3; have h4 : ¬ kt_side (fk a_22.toInt.toNat) = kt_side (fk q_) := h3; omega)⟩
               | exact Or.inr ⟨rfl, fun h => h.2.elim (fun h1 => hnn h1.1) (fun h2 => by have h3 := h2.2.2; rw [← e22] at h3; exact (ht75.mpr h3) c_76)⟩) rfl
      · have d_27 := c_27
        simp only [kt_lt, kt_le, kt_eq, kt_c0, kt_c1, kt_c2, kt_c3, kt_c4, kt_c8, kt_c9, kt_cm1, kt_c81, kt_c40, kt_c7, kt_c5, kt_c6, kt_c512, kt_c10, kt_c10000] at d_27
        refine lv_iload hx hb dX6_isFoe_30 (lv_at hl 0 rfl) ?_
        refine lv_aload_n hx hb dX6_isFoe_32 rfl (lv_at hl 1 rfl) ?_
        refine va_get (D := D) (ci := 6) (C := RX6) (T := TX6) (N := 9) hx hb hts iw_X6_isFoe_X6 hown hK hP 0 rfl rfl 5 (by decide) (hts (.fieldLink RX6 40 "KingTable$Rules" "total" "I") (List.mem_cons_of_mem _ (List.mem_append_left _ (List.mem_append_left _ (List.mem_append_left _ (List.mem_cons_of_mem _ (List.Mem.head _))))))) (fun _ h9 => h9) rfl dX6_isFoe_33 ?_
        refine lv_icmp_lt (tgt := 58) hx hb dX6_isFoe_36 (by decide) (fun c_36 => ?_) (fun c_36 => ?_)
        · have d_36 := c_36
          simp only [kt_lt, kt_le, kt_eq, kt_c0, kt_c1, kt_c2, kt_c3, kt_c4, kt_c8, kt_c9, kt_cm1, kt_c81, kt_c40, kt_c7, kt_c5, kt_c6, kt_c512, kt_c10, kt_c10000] at d_36
          refine lv_aload_n hx hb dX6_isFoe_58 rfl (lv_at hl 1 rfl) ?_
          refine va_get (D := D) (ci := 6) (C := RX6) (T := TX6) (N := 9) hx hb hts iw_X6_isFoe_X6 hown hK hP 0 rfl rfl 3 (by decide) (hts (.fieldLink RX6 22 "KingTable$Rules" "sides" "[I") (List.mem_cons_of_mem _ (List.mem_append_left _ (List.mem_append_left _ (List.mem_append_left _ (List.mem_cons_of_mem _ (List.mem_cons_of_mem _ (List.Mem.head _)))))))) (fun _ h9 => h9) rfl dX6_isFoe_59 ?_
          refine lv_iload hx hb dX6_isFoe_62 (lv_at hl 0 rfl) ?_
          have hi_3 : vp_in a_22 40 := by exact kt_in (by omega) (by omega)
          refine va_iald hx hb hK hP 5 0 rfl rfl hi_3 dX6_isFoe_64 ?_
          refine lv_topi (fun a_64 ea_64 => ?_)
          have ra_64 := hrs.get hi_3
          rw [← ea_64] at ra_64
          have hnn : ¬ fh p1.toInt.toNat = -1 := by rw [← e22]; intro h; rw [h] at hfq ra_22; first | omega | (rw [h, kt_cm1] at d_27; omega)
          have e64 : a_64 = fs a_22.toInt.toNat := ea_64
          have hs64 := (hsd_ a_22.toInt.toNat (by omega)).1
          rw [← e64] at hs64
          have hs64r : kt_side (fk a_22.toInt.toNat) = 0 ∨ kt_side (fk a_22.toInt.toNat) = 1 := by unfold kt_side; split; exact Or.inr rfl; exact Or.inl rfl
          refine lv_iload_n hx hb dX6_isFoe_65 rfl (lv_at hl 4 rfl) ?_
          refine lv_icmp_ne (tgt := 83) hx hb dX6_isFoe_66 (by decide) (fun c_66 => ?_) (fun c_66 => ?_)
          · have d_66 := c_66
            simp only [kt_lt, kt_le, kt_eq, kt_c0, kt_c1, kt_c2, kt_c3, kt_c4, kt_c8, kt_c9, kt_cm1, kt_c81, kt_c40, kt_c7, kt_c5, kt_c6, kt_c512, kt_c10, kt_c10000] at d_66
            refine lv_iconst (v := 0) hx hb dX6_isFoe_83 (by decide) ?_
            exact kt_rz () hx hb hr hlk hS dX6_isFoe_84 hP hD (by show kt_B (0 : Int32) (kt_foe fh fr fk lt q_ p1.toInt); first
                 | exact Or.inr ⟨rfl, fun h => h.1 (by omega)⟩
                 | exact Or.inl ⟨rfl, by omega, Or.inl ⟨hm1, h6.mp c_49⟩⟩
                 | exact Or.inr ⟨rfl, fun h => h.2.elim (fun h1 => c_49 (h6.mpr h1.2)) (fun h2 => h2.1 hm1)⟩
                 | exact Or.inl ⟨rfl, by omega, Or.inr ⟨hnn, by rw [← e22]; show ¬ kt_side (fk a_22.toInt.toNat) = _; omega, by rw [← e22]; exact ht75.mp c_76⟩⟩
                 | exact Or.inr ⟨rfl, fun h => h.2.elim (fun h1 => hnn h1.1) (fun h2 => by have h3 := h2.2.1; rw [← e22] at h3; have h4 : ¬ kt_side (fk a_22.toInt.toNat) = kt_side (fk q_) := h3; omega)⟩
                 | exact Or.inr ⟨rfl, fun h => h.2.elim (fun h1 => hnn h1.1) (fun h2 => by have h3 := h2.2.2; rw [← e22] at h3; exact (ht75.mpr h3) c_76)⟩) rfl
          · have d_66 := c_66
            simp only [kt_lt, kt_le, kt_eq, kt_c0, kt_c1, kt_c2, kt_c3, kt_c4, kt_c8, kt_c9, kt_cm1, kt_c81, kt_c40, kt_c7, kt_c5, kt_c6, kt_c512, kt_c10, kt_c10000] at d_66
            refine lv_aload_n hx hb dX6_isFoe_69 rfl (lv_at hl 1 rfl) ?_
            refine va_get (D := D) (ci := 6) (C := RX6) (T := TX6) (N := 9) hx hb hts iw_X6_isFoe_X6 hown hK hP 0 rfl rfl 4 (by decide) (hts (.fieldLink RX6 25 "KingTable$Rules" "takers" "[Z") (List.mem_cons_of_mem _ (List.mem_append_left _ (List.mem_append_left _ (List.mem_append_left _ (List.mem_cons_of_mem _ (List.mem_cons_of_mem _ (List.mem_cons_of_mem _ (List.Mem.head _))))))))) (fun _ h9 => h9) rfl dX6_isFoe_70 ?_
            refine lv_iload hx hb dX6_isFoe_73 (lv_at hl 0 rfl) ?_
            have hi_4 : vp_in a_22 40 := by exact kt_in (by omega) (by omega)
            refine va_zald hx hb hK hP 6 1 rfl rfl hi_4 dX6_isFoe_75 ?_
            refine lv_topi (fun a_75 ea_75 => ?_)
            have ra_75 := hrt.get hi_4
            rw [← ea_75] at ra_75
            have e75 : a_75 = ft a_22.toInt.toNat := ea_75
            have ht75 := (hsd_ a_22.toInt.toNat (by omega)).2.1.nz
            rw [← e75] at ht75
            refine lv_if_eq (tgt := 83) hx hb dX6_isFoe_76 (by decide) (fun c_76 => ?_) (fun c_76 => ?_)
            · have d_76 := c_76
              simp only [kt_lt, kt_le, kt_eq, kt_c0, kt_c1, kt_c2, kt_c3, kt_c4, kt_c8, kt_c9, kt_cm1, kt_c81, kt_c40, kt_c7, kt_c5, kt_c6, kt_c512, kt_c10, kt_c10000] at d_76
              refine lv_iconst (v := 0) hx hb dX6_isFoe_83 (by decide) ?_
              exact kt_rz () hx hb hr hlk hS dX6_isFoe_84 hP hD (by show kt_B (0 : Int32) (kt_foe fh fr fk lt q_ p1.toInt); first
                   | exact Or.inr ⟨rfl, fun h => h.1 (by omega)⟩
                   | exact Or.inl ⟨rfl, by omega, Or.inl ⟨hm1, h6.mp c_49⟩⟩
                   | exact Or.inr ⟨rfl, fun h => h.2.elim (fun h1 => c_49 (h6.mpr h1.2)) (fun h2 => h2.1 hm1)⟩
                   | exact Or.inl ⟨rfl, by omega, Or.inr ⟨hnn, by rw [← e22]; show ¬ kt_side (fk a_22.toInt.toNat) = _; omega, by rw [← e22]; exact ht75.mp c_76⟩⟩
                   | exact Or.inr ⟨rfl, fun h => h.2.elim (fun h1 => hnn h1.1) (fun h2 => by have h3 := h2.2.1; rw [← e22] at h3; have h4 : ¬ kt_side (fk a_22.toInt.toNat) = kt_side (fk q_) := h3; omega)⟩
                   | exact Or.inr ⟨rfl, fun h => h.2.elim (fun h1 => hnn h1.1) (fun h2 => by have h3 := h2.2.2; rw [← e22] at h3; exact (ht75.mpr h3) c_76)⟩) rfl
            · have d_76 := c_76
              simp only [kt_lt, kt_le, kt_eq, kt_c0, kt_c1, kt_c2, kt_c3, kt_c4, kt_c8, kt_c9, kt_cm1, kt_c81, kt_c40, kt_c7, kt_c5, kt_c6, kt_c512, kt_c10, kt_c10000] at d_76
              refine lv_iconst (v := 1) hx hb dX6_isFoe_79 (by decide) ?_
              refine lv_goto (tgt := 84) hx hb dX6_isFoe_80 (by decide) ?_
              exact kt_rz () hx hb hr hlk hS dX6_isFoe_84 hP hD (by show kt_B (1 : Int32) (kt_foe fh fr fk lt q_ p1.toInt); first
                   | exact Or.inr ⟨rfl, fun h => h.1 (by omega)⟩
                   | exact Or.inl ⟨rfl, by omega, Or.inl ⟨hm1, h6.mp c_49⟩⟩
                   | exact Or.inr ⟨rfl, fun h => h.2.elim (fun h1 => c_49 (h6.mpr h1.2)) (fun h2 => h2.1 hm1)⟩
                   | exact Or.inl ⟨rfl, by omega, Or.inr ⟨hnn, by rw [← e22]; show ¬ kt_side (fk a_22.toInt.toNat) = _; omega, by rw [← e22]; exact ht75.mp c_76⟩⟩
                   | exact Or.inr ⟨rfl, fun h => h.2.elim (fun h1 => hnn h1.1) (fun h2 => by have h3 := h2.2.1; rw [← e22] at h3; have h4 : ¬ kt_side (fk a_22.toInt.toNat) = kt_side (fk q_) := h3; omega)⟩
                   | exact Or.inr ⟨rfl, fun h => h.2.elim (fun h1 => hnn h1.1) (fun h2 => by have h3 := h2.2.2; rw [← e22] at h3; exact (ht75.mpr h3) c_76)⟩) rfl
        · have d_36 := c_36
          simp only [kt_lt, kt_le, kt_eq, kt_c0, kt_c1, kt_c2, kt_c3, kt_c4, kt_c8, kt_c9, kt_cm1, kt_c81, kt_c40, kt_c7, kt_c5, kt_c6, kt_c512, kt_c10, kt_c10000] at d_36
          refine lv_aload_n hx hb dX6_isFoe_39 rfl (lv_at hl 1 rfl) ?_
          refine va_get (D := D) (ci := 6) (C := RX6) (T := TX6) (N := 9) hx hb hts iw_X6_isFoe_X6 hown hK hP 0 rfl rfl 1 (by decide) (hts (.fieldLink RX6 12 "KingTable$Rules" "ground" "LKingTable$Ground;") (List.mem_cons_of_mem _ (List.mem_append_left _ (List.mem_append_left _ (List.mem_append_left _ (List.Mem.head _)))))) (fun _ h9 => h9) rfl dX6_isFoe_40 ?_
          refine va_getN (D := D) (ci := 0) (C := RX0) (T := TX0) (N := 5) hx hb hts iw_X6_isFoe_X0 hown hK hP 1 rfl rfl 0 (by decide) (va_Nw.use (w := .fieldLinkNest RX6 52 "KingTable$Ground" "types" "[I" "KingTable") rfl (hN _ (by decide +kernel))) (fun _ h9 => h9) rfl dX6_isFoe_43 ?_
          refine lv_iload_n hx hb dX6_isFoe_46 rfl (lv_at hl 3 rfl) ?_
          have hi_5 : vp_in p1 81 := by exact kt_in (by omega) (by omega)
          refine va_iald hx hb hK hP 2 0 rfl rfl hi_5 dX6_isFoe_47 ?_
          refine lv_topi (fun a_47 ea_47 => ?_)
          have ra_47 := hgt.get hi_5
          rw [← ea_47] at ra_47
          have h6 := (htf p1.toInt.toNat (by omega)).2.1
          have e47 : a_47 = tg p1.toInt.toNat := ea_47
          rw [← e47] at h6
          have hm1 : fh p1.toInt.toNat = -1 := by rw [← e22]; exact (kt_eq _ _).mpr (by rw [kt_cm1]; omega)
          refine lv_iconst (v := 2) hx hb dX6_isFoe_48 (by decide) ?_
          refine lv_icmp_ne (tgt := 56) hx hb dX6_isFoe_49 (by decide) (fun c_49 => ?_) (fun c_49 => ?_)
          · have d_49 := c_49
            simp only [kt_lt, kt_le, kt_eq, kt_c0, kt_c1, kt_c2, kt_c3, kt_c4, kt_c8, kt_c9, kt_cm1, kt_c81, kt_c40, kt_c7, kt_c5, kt_c6, kt_c512, kt_c10, kt_c10000] at d_49
            refine lv_iconst (v := 0) hx hb dX6_isFoe_56 (by decide) ?_
            exact kt_rz () hx hb hr hlk hS dX6_isFoe_57 hP hD (by show kt_B (0 : Int32) (kt_foe fh fr fk lt q_ p1.toInt); first
                 | exact Or.inr ⟨rfl, fun h => h.1 (by omega)⟩
                 | exact Or.inl ⟨rfl, by omega, Or.inl ⟨hm1, h6.mp c_49⟩⟩
                 | exact Or.inr ⟨rfl, fun h => h.2.elim (fun h1 => c_49 (h6.mpr h1.2)) (fun h2 => h2.1 hm1)⟩
                 | exact Or.inl ⟨rfl, by omega, Or.inr ⟨hnn, by rw [← e22]; show ¬ kt_side (fk a_22.toInt.toNat) = _; omega, by rw [← e22]; exact ht75.mp c_76⟩⟩
                 | exact Or.inr ⟨rfl, fun h => h.2.elim (fun h1 => hnn h1.1) (fun h2 => by have h3 := h2.2.1; rw [← e22] at h3; have h4 : ¬ kt_side (fk a_22.toInt.toNat) = kt_side (fk q_) := h3; omega)⟩
                 | exact Or.inr ⟨rfl, fun h => h.2.elim (fun h1 => hnn h1.1) (fun h2 => by have h3 := h2.2.2; rw [← e22] at h3; exact (ht75.mpr h3) c_76)⟩) rfl
          · have d_49 := c_49
            simp only [kt_lt, kt_le, kt_eq, kt_c0, kt_c1, kt_c2, kt_c3, kt_c4, kt_c8, kt_c9, kt_cm1, kt_c81, kt_c40, kt_c7, kt_c5, kt_c6, kt_c512, kt_c10, kt_c10000] at d_49
            refine lv_iconst (v := 1) hx hb dX6_isFoe_52 (by decide) ?_
            refine lv_goto (tgt := 57) hx hb dX6_isFoe_53 (by decide) ?_
            exact kt_rz () hx hb hr hlk hS dX6_isFoe_57 hP hD (by show kt_B (1 : Int32) (kt_foe fh fr fk lt q_ p1.toInt); first
                 | exact Or.inr ⟨rfl, fun h => h.1 (by omega)⟩
                 | exact Or.inl ⟨rfl, by omega, Or.inl ⟨hm1, h6.mp c_49⟩⟩
                 | exact Or.inr ⟨rfl, fun h => h.2.elim (fun h1 => c_49 (h6.mpr h1.2)) (fun h2 => h2.1 hm1)⟩
                 | exact Or.inl ⟨rfl, by omega, Or.inr ⟨hnn, by rw [← e22]; show ¬ kt_side (fk a_22.toInt.toNat) = _; omega, by rw [← e22]; exact ht75.mp c_76⟩⟩
                 | exact Or.inr ⟨rfl, fun h => h.2.elim (fun h1 => hnn h1.1) (fun h2 => by have h3 := h2.2.1; rw [← e22] at h3; have h4 : ¬ kt_side (fk a_22.toInt.toNat) = kt_side (fk q_) := h3; omega)⟩
                 | exact Or.inr ⟨rfl, fun h => h.2.elim (fun h1 => hnn h1.1) (fun h2 => by have h3 := h2.2.2; rw [← e22] at h3; exact (ht75.mpr h3) c_76)⟩) rfl
    · have d_12 := c_12
      simp only [kt_lt, kt_le, kt_eq, kt_c0, kt_c1, kt_c2, kt_c3, kt_c4, kt_c8, kt_c9, kt_cm1, kt_c81, kt_c40, kt_c7, kt_c5, kt_c6, kt_c512, kt_c10, kt_c10000] at d_12
      refine lv_iconst (v := 0) hx hb dX6_isFoe_15 (by decide) ?_
      exact kt_rz () hx hb hr hlk hS dX6_isFoe_16 hP hD (by show kt_B (0 : Int32) (kt_foe fh fr fk lt q_ p1.toInt); first
           | exact Or.inr ⟨rfl, fun h => h.1 (by omega)⟩
           | exact Or.inl ⟨rfl, by omega, Or.inl ⟨hm1, h6.mp c_49⟩⟩
           | exact Or.inr ⟨rfl, fun h => h.2.elim (fun h1 => c_49 (h6.mpr h1.2)) (fun h2 => h2.1 hm1)⟩
           | exact Or.inl ⟨rfl, by omega, Or.inr ⟨hnn, by rw [← e22]; show ¬ kt_side (fk a_22.toInt.toNat) = _; omega, by rw [← e22]; exact ht75.mp c_76⟩⟩
           | exact Or.inr ⟨rfl, fun h => h.2.elim (fun h1 => hnn h1.1) (fun h2 => by have h3 := h2.2.1; rw [← e22] at h3; have h4 : ¬ kt_side (fk a_22.toInt.toNat) = kt_side (fk q_) := h3; omega)⟩
           | exact Or.inr ⟨rfl, fun h => h.2.elim (fun h1 => hnn h1.1) (fun h2 => by have h3 := h2.2.2; rw [← e22] at h3; exact (ht75.mpr h3) c_76)⟩) rfl

set_option maxHeartbeats 4000000 in
set_option maxRecDepth 100000 in
theorem c_X6_isCaughtE (l : Launch) (D : va_G) (cI cZ cB : ClassId) (sz : Nat) (ru : Nat) (la : Nat) (gr : Nat) (rk : Nat) (rs : Nat) (rt : Nat) (rv : Nat) (tt : Int32) (kg : Int32) (vc : Int32) (lg : Int32) (lh : Int32) (lt : Int32) (lr : Int32) (lc : Int32) (gt : Nat) (gg : Nat) (gn : Nat) (gs : Int32) (gm : Int32) (tg : Nat → Int32) (nb : Nat → Int32) (nw : Nat) (sf : Nat) (sh : Nat) (tu : Int32) (ff : Nat → Int32) (fh : Nat → Int32) (fk : Nat → Int32) (fs : Nat → Int32) (ft : Nat → Int32) (w_ : Int) (L_ : Int) (P_ : Nat) (gl : Nat → Int32) (fr : Nat → Int32) (ck : Nat → Int32) (p1 : Int32) (p2 : Int32) (hgs : 0 ≤ gs.toInt ∧ gs.toInt ≤ 81) (hgt : kt_r tg 81 0 2) (hnb : kt_r nb 324 (-1) 80) (htt : 0 ≤ tt.toInt ∧ tt.toInt ≤ 40) (hff : kt_r ff 40 (-1) 80) (hfh : kt_r fh 81 (-1) 39) (hrk : kt_r ck 40 0 4) (hrs : kt_r fs 40 0 1) (hrt : kt_r ft 40 0 1) (hrx : kt_RX w_ L_ P_ tt kg gs lg lt tg gl nb fk fs ft fr ck) (hfp : kt_r ff P_ (-1) (L_ * w_ - 1)) (hfo : kt_r fh 81 (-1) ((P_ : Int) - 1)) (hp1 : 0 ≤ p1.toInt ∧ p1.toInt < (P_ : Int)) (hp2 : 0 ≤ p2.toInt ∧ p2.toInt < 4) (hxo : 0 ≤ (ff p1.toNatClampNeg).toInt) : kt_Mi l yX6_isCaught wsX6_isCaught { frames := 1, cells := 0, slots := 0, locals := 24 } D (kt_ty cI cZ cB) [.ref ru, .ref nw, .int p1, .int p2] sz [(ru, .inr (6, [.ref la, .ref gr, .ref rk, .ref rs, .ref rt, .int tt, .int kg, .ref rv, .int vc])), (la, .inr (1, [.int lg, .int lh, .int lt, .int lr, .int lc])), (gr, .inr (0, [.ref gt, .ref gg, .ref gn, .int gs, .int gm])), (gt, .inl (cI, 81, .inl tg)), (gn, .inl (cI, 324, .inl nb)), (nw, .inr (8, [.ref sf, .ref sh, .int tu])), (sf, .inl (cI, 40, .inl ff)), (sh, .inl (cI, 81, .inl fh)), (rk, .inl (cI, 40, .inl ck)), (rs, .inl (cI, 40, .inl fs)), (rt, .inl (cZ, 40, .inl ft))] (fun (r : Int32) (u : Unit) => kt_B r (kt_tkn fh fr fk lt lh w_ L_ p1.toNatClampNeg (ff p1.toNatClampNeg).toInt p2.toInt)) (fun (u : Unit) => [(ru, .inr (6, [.ref la, .ref gr, .ref rk, .ref rs, .ref rt, .int tt, .int kg, .ref rv, .int vc])), (la, .inr (1, [.int lg, .int lh, .int lt, .int lr, .int lc])), (gr, .inr (0, [.ref gt, .ref gg, .ref gn, .int gs, .int gm])), (gt, .inl (cI, 81, .inl tg)), (gn, .inl (cI, 324, .inl nb)), (nw, .inr (8, [.ref sf, .ref sh, .int tu])), (sf, .inl (cI, 40, .inl ff)), (sh, .inl (cI, 81, .inl fh)), (rk, .inl (cI, 40, .inl ck)), (rs, .inl (cI, 40, .inl fs)), (rt, .inl (cZ, 40, .inl ft))]) 0 0 := by
  refine kt_Mi.of (cc := cX6_isCaught) (maxL := 7) (ret := some .boolean) (by decide) rfl (Nat.le_of_ble_eq_true rfl) ?_
  intro p e s m below meth c A ls H hAt hP hD hS hl
  obtain ⟨hx, hb, hr, hml, hown, hts, hN, hK, hlk, hnm, hA⟩ := hAt
  have hl : lv_has ls 7 [(0, .ref ru), (1, .ref nw), (2, .int p1), (3, .int p2)] := hl
  have hown : s.vm.findClass RX6 = some m.cls := hown
  have hrx0 := hrx
  obtain ⟨hgx, hnx, htf, ⟨htP, hP40⟩, hsd_, hkq, hck, hkr⟩ := hrx
  have hgx1 := hgx.1
  have hw_ := hgx.2.1
  have hL_ := hgx.2.2
  have httP : tt.toInt = (P_ : Int) := by rw [htP, kt_nI (by omega)]
  have hkk := hkq p1.toInt.toNat (by omega)
  rw [← kt_nIof (x := p1) (by omega)] at hkk
  have hX := hfp.get (kt_in (x := p1) (n := P_) (by omega) (by omega))
  have hX2 : 0 ≤ (ff p1.toNatClampNeg).toInt ∧ (ff p1.toNatClampNeg).toInt < L_ * w_ := by omega
  refine lv_aload_n hx hb dX6_isCaught_0 rfl (lv_at hl 0 rfl) ?_
  refine va_get (D := D) (ci := 6) (C := RX6) (T := TX6) (N := 9) hx hb hts iw_X6_isCaught_X6 hown hK hP 0 rfl rfl 2 (by decide) (hts (.fieldLink RX6 18 "KingTable$Rules" "kinds" "[I") (kt_wp_X6_isCaught__X6_isCaught_r1 kt_wm0)) (fun _ h9 => h9) rfl dX6_isCaught_1 ?_
  refine lv_iload_n hx hb dX6_isCaught_4 rfl (lv_at hl 2 rfl) ?_
  have hi_1 : vp_in p1 40 := by exact kt_in (by omega) (by omega)
  refine va_iald hx hb hK hP 8 0 rfl rfl hi_1 dX6_isCaught_5 ?_
  refine lv_topi (fun a_5 ea_5 => ?_)
  have ra_5 := hrk.get hi_1
  rw [← ea_5] at ra_5
  refine lv_iconst (v := 4) hx hb dX6_isCaught_6 (by decide) ?_
  refine kt_join (σ := Int32) 34 7 (fun u => [(ru, .inr (6, [.ref la, .ref gr, .ref rk, .ref rs, .ref rt, .int tt, .int kg, .ref rv, .int vc])), (la, .inr (1, [.int lg, .int lh, .int lt, .int lr, .int lc])), (gr, .inr (0, [.ref gt, .ref gg, .ref gn, .int gs, .int gm])), (gt, .inl (cI, 81, .inl tg)), (gn, .inl (cI, 324, .inl nb)), (nw, .inr (8, [.ref sf, .ref sh, .int tu])), (sf, .inl (cI, 40, .inl ff)), (sh, .inl (cI, 81, .inl fh)), (rk, .inl (cI, 40, .inl ck)), (rs, .inl (cI, 40, .inl fs)), (rt, .inl (cZ, 40, .inl ft))]) (fun u => [(0, .ref ru), (1, .ref nw), (2, .int p1), (3, .int p2)]) (fun u => [.int u]) (fun u => kt_B u (kt_cap fk lh p1.toNatClampNeg)) (D := D) (A := A) (H0 := s.heap) (fun u hI H locs hP hD hS ls hl => ?_) (fun j_34 => ?_)
  · obtain ⟨v, rfl⟩ : ∃ z, z = u := ⟨_, rfl⟩
    have hP : va_P D vwCl [(ru, .inr (6, [.ref la, .ref gr, .ref rk, .ref rs, .ref rt, .int tt, .int kg, .ref rv, .int vc])), (la, .inr (1, [.int lg, .int lh, .int lt, .int lr, .int lc])), (gr, .inr (0, [.ref gt, .ref gg, .ref gn, .int gs, .int gm])), (gt, .inl (cI, 81, .inl tg)), (gn, .inl (cI, 324, .inl nb)), (nw, .inr (8, [.ref sf, .ref sh, .int tu])), (sf, .inl (cI, 40, .inl ff)), (sh, .inl (cI, 81, .inl fh)), (rk, .inl (cI, 40, .inl ck)), (rs, .inl (cI, 40, .inl fs)), (rt, .inl (cZ, 40, .inl ft))] H := hP
    have hD : va_D A [(ru, .inr (6, [.ref la, .ref gr, .ref rk, .ref rs, .ref rt, .int tt, .int kg, .ref rv, .int vc])), (la, .inr (1, [.int lg, .int lh, .int lt, .int lr, .int lc])), (gr, .inr (0, [.ref gt, .ref gg, .ref gn, .int gs, .int gm])), (gt, .inl (cI, 81, .inl tg)), (gn, .inl (cI, 324, .inl nb)), (nw, .inr (8, [.ref sf, .ref sh, .int tu])), (sf, .inl (cI, 40, .inl ff)), (sh, .inl (cI, 81, .inl fh)), (rk, .inl (cI, 40, .inl ck)), (rs, .inl (cI, 40, .inl fs)), (rt, .inl (cZ, 40, .inl ft))] := hD
    have hl : lv_has ls 7 [(0, .ref ru), (1, .ref nw), (2, .int p1), (3, .int p2)] := hl
    have hI : kt_B v (kt_cap fk lh p1.toNatClampNeg) := hI
    have hv := hI
    refine lv_istore (lv' := [(4, .int v), (0, .ref ru), (1, .ref nw), (2, .int p1), (3, .int p2)]) hx hb dX6_isCaught_34 hl (by decide) rfl (fun ls hl => ?_)
    refine lv_aload_n hx hb dX6_isCaught_36 rfl (lv_at hl 2 rfl) ?_
    refine lv_iload_n hx hb dX6_isCaught_37 rfl (lv_at hl 3 rfl) ?_
    refine kt_pi (wc := [(nw, .inr (8, [.ref sf, .ref sh, .int tu])), (sf, .inl (cI, 40, .inl ff))]) [5, 6] hP hD hS hA rfl (by decide) (fun hPc hDc => va_runV (As := [.int p1]) (rest := []) ⟨hx, hb, hml, hown, hts⟩ (c_X8_fieldOfE l D cI cZ cB H.size nw sf sh tu ff p1 hff) (cwV 1 hts gX6_isCaught_X8_fieldOf rfl rfl rfl (by decide +kernel) ⟨Nat.le_of_ble_eq_true rfl, Nat.le_of_ble_eq_true rfl⟩) (kt_preV hN hK hPc hDc 0 (ci := 8) (q := (RX8, TX8, 3)) rfl rfl) rfl rfl hl.1 rfl (lv_room (Nat.le_of_ble_eq_true rfl)) dX6_isCaught_38 ⟨Nat.le_of_ble_eq_true rfl, Nat.le_of_ble_eq_true rfl⟩) (fun r_38 _ H locs hw_38 hP hS => ?_)
    have e38 := hw_38.1 (by omega)
    have i38 := congrArg Int32.toInt e38
    refine lv_istore (lv' := [(5, .int r_38), (4, .int v), (0, .ref ru), (1, .ref nw), (2, .int p1), (3, .int p2)]) hx hb dX6_isCaught_41 hl (by decide) rfl (fun ls hl => ?_)
    refine lv_iconst (v := 0) hx hb dX6_isCaught_43 (by decide) ?_
    refine lv_istore (lv' := [(6, .int 0), (5, .int r_38), (4, .int v), (0, .ref ru), (1, .ref nw), (2, .int p1), (3, .int p2)]) hx hb dX6_isCaught_44 hl (by decide) rfl (fun ls hl => ?_)
    refine kt_loop (σ := Nat) 46 7 (fun u => [(ru, .inr (6, [.ref la, .ref gr, .ref rk, .ref rs, .ref rt, .int tt, .int kg, .ref rv, .int vc])), (la, .inr (1, [.int lg, .int lh, .int lt, .int lr, .int lc])), (gr, .inr (0, [.ref gt, .ref gg, .ref gn, .int gs, .int gm])), (gt, .inl (cI, 81, .inl tg)), (gn, .inl (cI, 324, .inl nb)), (nw, .inr (8, [.ref sf, .ref sh, .int tu])), (sf, .inl (cI, 40, .inl ff)), (sh, .inl (cI, 81, .inl fh)), (rk, .inl (cI, 40, .inl ck)), (rs, .inl (cI, 40, .inl fs)), (rt, .inl (cZ, 40, .inl ft))]) (fun u => [(6, .int (nI u)), (5, .int r_38), (4, .int v), (0, .ref ru), (1, .ref nw), (2, .int p1), (3, .int p2)]) (fun n u => (u ≤ 4 ∧ 4 < u + n) ∧ ∀ b : Nat, b < u → (kt_cap fk lh p1.toNatClampNeg ∨ (b : Int) = p2.toInt) → kt_foe fh fr fk lt p1.toNatClampNeg (kt_al (ff p1.toNatClampNeg).toInt w_ L_ (b : Int) 1)) (fun u h => by omega) (fun n_46 ih_46 u hI H locs hP hD hS ls hl => ?_) (5) 0 (by show (0 ≤ 4 ∧ 4 < 0 + 5) ∧ ∀ b : Nat, b < 0 → (kt_cap fk lh p1.toNatClampNeg ∨ (b : Int) = p2.toInt) → kt_foe fh fr fk lt p1.toNatClampNeg (kt_al (ff p1.toNatClampNeg).toInt w_ L_ (b : Int) 1); exact ⟨by decide, fun b hb => absurd hb (Nat.not_lt_zero b)⟩) hP hD hS (lv_sub hl [0, 1, 2, 3, 4, 5, 6] rfl)
    obtain ⟨k, rfl⟩ : ∃ z, z = u := ⟨_, rfl⟩
    have hP : va_P D vwCl [(ru, .inr (6, [.ref la, .ref gr, .ref rk, .ref rs, .ref rt, .int tt, .int kg, .ref rv, .int vc])), (la, .inr (1, [.int lg, .int lh, .int lt, .int lr, .int lc])), (gr, .inr (0, [.ref gt, .ref gg, .ref gn, .int gs, .int gm])), (gt, .inl (cI, 81, .inl tg)), (gn, .inl (cI, 324, .inl nb)), (nw, .inr (8, [.ref sf, .ref sh, .int tu])), (sf, .inl (cI, 40, .inl ff)), (sh, .inl (cI, 81, .inl fh)), (rk, .inl (cI, 40, .inl ck)), (rs, .inl (cI, 40, .inl fs)), (rt, .inl (cZ, 40, .inl ft))] H := hP
    have hD : va_D A [(ru, .inr (6, [.ref la, .ref gr, .ref rk, .ref rs, .ref rt, .int tt, .int kg, .ref rv, .int vc])), (la, .inr (1, [.int lg, .int lh, .int lt, .int lr, .int lc])), (gr, .inr (0, [.ref gt, .ref gg, .ref gn, .int gs, .int gm])), (gt, .inl (cI, 81, .inl tg)), (gn, .inl (cI, 324, .inl nb)), (nw, .inr (8, [.ref sf, .ref sh, .int tu])), (sf, .inl (cI, 40, .inl ff)), (sh, .inl (cI, 81, .inl fh)), (rk, .inl (cI, 40, .inl ck)), (rs, .inl (cI, 40, .inl fs)), (rt, .inl (cZ, 40, .inl ft))] := hD
    have hl : lv_has ls 7 [(6, .int (nI k)), (5, .int r_38), (4, .int v), (0, .ref ru), (1, .ref nw), (2, .int p1), (3, .int p2)] := hl
    have hI : (k ≤ 4 ∧ 4 < k + (n_46 + 1)) ∧ ∀ b : Nat, b < k → (kt_cap fk lh p1.toNatClampNeg ∨ (b : Int) = p2.toInt) → kt_foe fh fr fk lt p1.toNatClampNeg (kt_al (ff p1.toNatClampNeg).toInt w_ L_ (b : Int) 1) := hI
    obtain ⟨hkb, hal⟩ := hI
    have hk0 := kt_nI (n := k) (by omega)
    refine lv_iload hx hb dX6_isCaught_46 (lv_at hl 0 rfl) ?_
    refine lv_iconst (v := 4) hx hb dX6_isCaught_48 (by decide) ?_
    refine lv_icmp_ge (tgt := 98) hx hb dX6_isCaught_49 (by decide) (fun c_49 => ?_) (fun c_49 => ?_)
    · have d_49 := c_49
      simp only [kt_lt, kt_le, kt_eq, kt_c0, kt_c1, kt_c2, kt_c3, kt_c4, kt_c8, kt_c9, kt_cm1, kt_c81, kt_c40, kt_c7, kt_c5, kt_c6, kt_c512, kt_c10, kt_c10000] at d_49
      refine lv_iconst (v := 1) hx hb dX6_isCaught_98 (by decide) ?_
      exact kt_rz () hx hb hr hlk hS dX6_isCaught_99 hP hD (by show kt_B (1 : Int32) (kt_tkn fh fr fk lt lh w_ L_ p1.toNatClampNeg (ff p1.toNatClampNeg).toInt p2.toInt); first
           | exact Or.inr ⟨rfl, fun h => h.elim (fun h1 => absurd (hv.t c_54) h1.1) (fun h2 => (hw_84.f c_87) (h2.2 k (by omega)))⟩
           | exact Or.inr ⟨rfl, fun h => h.elim (fun h1 => (hw_84.f c_87) (by rw [show ((k : Nat) : Int) = p2.toInt by rw [← hk0, c_60]]; exact h1.2)) (fun h2 => absurd h2.1 (hv.f c_54))⟩
           | (by_cases hc : kt_cap fk lh p1.toNatClampNeg; exact Or.inl ⟨rfl, Or.inr ⟨hc, fun b hb => hal b (by omega) (Or.inl hc)⟩⟩; exact Or.inl ⟨rfl, Or.inl ⟨hc, by have h5 := hal p2.toInt.toNat (by omega) (Or.inr (by omega)); rw [show ((p2.toInt.toNat : Nat) : Int) = p2.toInt by omega] at h5; exact h5⟩⟩)) rfl
    · have d_49 := c_49
      simp only [kt_lt, kt_le, kt_eq, kt_c0, kt_c1, kt_c2, kt_c3, kt_c4, kt_c8, kt_c9, kt_cm1, kt_c81, kt_c40, kt_c7, kt_c5, kt_c6, kt_c512, kt_c10, kt_c10000] at d_49
      refine lv_iload hx hb dX6_isCaught_52 (lv_at hl 2 rfl) ?_
      refine lv_if_ne (tgt := 63) hx hb dX6_isCaught_54 (by decide) (fun c_54 => ?_) (fun c_54 => ?_)
      · have d_54 := c_54
        simp only [kt_lt, kt_le, kt_eq, kt_c0, kt_c1, kt_c2, kt_c3, kt_c4, kt_c8, kt_c9, kt_cm1, kt_c81, kt_c40, kt_c7, kt_c5, kt_c6, kt_c512, kt_c10, kt_c10000] at d_54
        refine lv_aload_n hx hb dX6_isCaught_63 rfl (lv_at hl 3 rfl) ?_
        refine lv_aload_n hx hb dX6_isCaught_64 rfl (lv_at hl 4 rfl) ?_
        refine lv_aload_n hx hb dX6_isCaught_65 rfl (lv_at hl 3 rfl) ?_
        refine va_get (D := D) (ci := 6) (C := RX6) (T := TX6) (N := 9) hx hb hts iw_X6_isCaught_X6 hown hK hP 0 rfl rfl 1 (by decide) (hts (.fieldLink RX6 12 "KingTable$Rules" "ground" "LKingTable$Ground;") (kt_wp_X6_isCaught__X6_isCaught_r1 kt_wm3)) (fun _ h9 => h9) rfl dX6_isCaught_66 ?_
        refine lv_iload hx hb dX6_isCaught_69 (lv_at hl 1 rfl) ?_
        refine lv_iload hx hb dX6_isCaught_71 (lv_at hl 0 rfl) ?_
        refine kt_pi (wc := [(gr, .inr (0, [.ref gt, .ref gg, .ref gn, .int gs, .int gm])), (gn, .inl (cI, 324, .inl nb))]) [2, 4] hP hD hS hA rfl (by decide) (fun hPc hDc => va_runV (As := [.int r_38, .int (nI k)]) (rest := [.ref nw, .ref ru]) ⟨hx, hb, hml, hown, hts⟩ (c_X0_besideE l D cI cZ cB H.size gr gt gg gn gs gm nb w_ L_ r_38 (nI k) hgs hnb hgx hnx) (cwV 2 hts gX6_isCaught_X0_beside rfl rfl rfl (by decide +kernel) ⟨Nat.le_of_ble_eq_true rfl, Nat.le_of_ble_eq_true rfl⟩) (kt_preV hN hK hPc hDc 0 (ci := 0) (q := (RX0, TX0, 5)) rfl rfl) rfl rfl hl.1 rfl (lv_room (Nat.le_of_ble_eq_true rfl)) dX6_isCaught_73 ⟨Nat.le_of_ble_eq_true rfl, Nat.le_of_ble_eq_true rfl⟩) (fun r_73 _ H locs hw_73 hP hS => ?_)
        have h73 := hw_73.1 (by omega)
        rw [e38, hk0] at h73
        have h73r := kt_al_r (a := (k : Int)) (n := 1) hw_ hL_ hX2 (by omega)
        rw [← h73] at h73r
        refine lv_iconst (v := 1) hx hb dX6_isCaught_76 (by decide) ?_
        refine lv_aload_n hx hb dX6_isCaught_77 rfl (lv_at hl 3 rfl) ?_
        refine va_get (D := D) (ci := 6) (C := RX6) (T := TX6) (N := 9) hx hb hts iw_X6_isCaught_X6 hown hK hP 0 rfl rfl 3 (by decide) (hts (.fieldLink RX6 22 "KingTable$Rules" "sides" "[I") (kt_wp_X6_isCaught__X6_isCaught_r1 kt_wm4)) (fun _ h9 => h9) rfl dX6_isCaught_78 ?_
        refine lv_iload_n hx hb dX6_isCaught_81 rfl (lv_at hl 5 rfl) ?_
        have hi_2 : vp_in p1 40 := by exact kt_in (by omega) (by omega)
        refine va_iald hx hb hK hP 9 0 rfl rfl hi_2 dX6_isCaught_82 ?_
        refine lv_topi (fun a_82 ea_82 => ?_)
        have ra_82 := hrs.get hi_2
        rw [← ea_82] at ra_82
        have e82 : a_82 = fs p1.toInt.toNat := ea_82
        have hs82 := (hsd_ p1.toInt.toNat (by omega)).1
        rw [← e82] at hs82
        refine lv_isub hx hb dX6_isCaught_83 ?_
        refine lv_topi (fun t_83 et_83 => ?_)
        first | have hk_83 := kt_subx et_83 (by first | omega | (simp only [kt_c0, kt_c1, kt_c2, kt_c3, kt_c4, kt_c8, kt_c9, kt_cm1, kt_c81, kt_c40, kt_c7, kt_c5, kt_c6, kt_c512, kt_c10, kt_c10000]; omega)) (by first | omega | (simp only [kt_c0, kt_c1, kt_c2, kt_c3, kt_c4, kt_c8, kt_c9, kt_cm1, kt_c81, kt_c40, kt_c7, kt_c5, kt_c6, kt_c512, kt_c10, kt_c10000]; omega)) | obtain ⟨k_83, hk_83, hm_83, hM_83⟩ := kt_subk et_83
        try simp only [kt_c0, kt_c1, kt_c2, kt_c3, kt_c4, kt_c8, kt_c9, kt_cm1, kt_c81, kt_c40, kt_c7, kt_c5, kt_c6, kt_c512, kt_c10, kt_c10000] at hk_83
        refine kt_pi (wc := [(ru, .inr (6, [.ref la, .ref gr, .ref rk, .ref rs, .ref rt, .int tt, .int kg, .ref rv, .int vc])), (gr, .inr (0, [.ref gt, .ref gg, .ref gn, .int gs, .int gm])), (gt, .inl (cI, 81, .inl tg)), (nw, .inr (8, [.ref sf, .ref sh, .int tu])), (sh, .inl (cI, 81, .inl fh)), (rs, .inl (cI, 40, .inl fs)), (rt, .inl (cZ, 40, .inl ft))]) [0, 2, 3, 5, 7, 9, 10] hP hD hS hA rfl (by decide) (fun hPc hDc => va_runV (As := [.ref nw, .int r_73, .int t_83]) (rest := []) ⟨hx, hb, hml, hown, hts⟩ (c_X6_isFoeE l D cI cZ cB H.size ru la gr rk rs rt rv tt kg vc lg lh lt lr lc gt gg gn gs gm tg nb nw sf sh tu ff fh fk fs ft w_ L_ P_ gl fr ck p1.toInt.toNat r_73 t_83 hgs hgt htt hfh hrs hrt hrx0 hfo (by omega) (by omega)) (cwV 3 hts gX6_isCaught_X6_isFoe rfl rfl rfl (by decide +kernel) ⟨Nat.le_of_ble_eq_true rfl, Nat.le_of_ble_eq_true rfl⟩) (kt_preV hN hK hPc hDc 0 (ci := 6) (q := (RX6, TX6, 9)) rfl rfl) rfl rfl hl.1 rfl (lv_room (Nat.le_of_ble_eq_true rfl)) dX6_isCaught_84 ⟨Nat.le_of_ble_eq_true rfl, Nat.le_of_ble_eq_true rfl⟩) (fun r_84 _ H locs hw_84 hP hS => ?_)
        rw [h73] at hw_84
        refine lv_if_ne (tgt := 92) hx hb dX6_isCaught_87 (by decide) (fun c_87 => ?_) (fun c_87 => ?_)
        · have d_87 := c_87
          simp only [kt_lt, kt_le, kt_eq, kt_c0, kt_c1, kt_c2, kt_c3, kt_c4, kt_c8, kt_c9, kt_cm1, kt_c81, kt_c40, kt_c7, kt_c5, kt_c6, kt_c512, kt_c10, kt_c10000] at d_87
          refine lv_iinc (v := nI (k + 1)) (lv' := [(6, .int (nI (k + 1))), (5, .int r_38), (4, .int v), (0, .ref ru), (1, .ref nw), (2, .int p1), (3, .int p2)]) hx hb dX6_isCaught_92 hl (k := 0) rfl (nI_1 _) (by decide) rfl (fun ls hl => ?_)
          refine lv_goto (tgt := 46) hx hb dX6_isCaught_95 (by decide) ?_
          exact ih_46 (k + 1) (by show ((k + 1) ≤ 4 ∧ 4 < (k + 1) + n_46) ∧ ∀ b : Nat, b < (k + 1) → (kt_cap fk lh p1.toNatClampNeg ∨ (b : Int) = p2.toInt) → kt_foe fh fr fk lt p1.toNatClampNeg (kt_al (ff p1.toNatClampNeg).toInt w_ L_ (b : Int) 1); exact ⟨by omega, fun b hb hc => if e : b = k then (by first | (rw [e]; exact hw_84.t c_87) | exact hc.elim (fun h1 => absurd h1 (hv.f c_54)) (fun h2 => absurd ((kt_eq _ _).mpr (by rw [hk0, ← e]; exact h2)) c_60)) else hal b (by omega) hc⟩) H _ hP hD hS ls (lv_sub hl [0, 1, 2, 3, 4, 5, 6] rfl)
        · have d_87 := c_87
          simp only [kt_lt, kt_le, kt_eq, kt_c0, kt_c1, kt_c2, kt_c3, kt_c4, kt_c8, kt_c9, kt_cm1, kt_c81, kt_c40, kt_c7, kt_c5, kt_c6, kt_c512, kt_c10, kt_c10000] at d_87
          refine lv_iconst (v := 0) hx hb dX6_isCaught_90 (by decide) ?_
          exact kt_rz () hx hb hr hlk hS dX6_isCaught_91 hP hD (by show kt_B (0 : Int32) (kt_tkn fh fr fk lt lh w_ L_ p1.toNatClampNeg (ff p1.toNatClampNeg).toInt p2.toInt); first
               | exact Or.inr ⟨rfl, fun h => h.elim (fun h1 => absurd (hv.t c_54) h1.1) (fun h2 => (hw_84.f c_87) (h2.2 k (by omega)))⟩
               | exact Or.inr ⟨rfl, fun h => h.elim (fun h1 => (hw_84.f c_87) (by rw [show ((k : Nat) : Int) = p2.toInt by rw [← hk0, c_60]]; exact h1.2)) (fun h2 => absurd h2.1 (hv.f c_54))⟩
               | (by_cases hc : kt_cap fk lh p1.toNatClampNeg; exact Or.inl ⟨rfl, Or.inr ⟨hc, fun b hb => hal b (by omega) (Or.inl hc)⟩⟩; exact Or.inl ⟨rfl, Or.inl ⟨hc, by have h5 := hal p2.toInt.toNat (by omega) (Or.inr (by omega)); rw [show ((p2.toInt.toNat : Nat) : Int) = p2.toInt by omega] at h5; exact h5⟩⟩)) rfl
      · have d_54 := c_54
        simp only [kt_lt, kt_le, kt_eq, kt_c0, kt_c1, kt_c2, kt_c3, kt_c4, kt_c8, kt_c9, kt_cm1, kt_c81, kt_c40, kt_c7, kt_c5, kt_c6, kt_c512, kt_c10, kt_c10000] at d_54
        refine lv_iload hx hb dX6_isCaught_57 (lv_at hl 0 rfl) ?_
        refine lv_iload_n hx hb dX6_isCaught_59 rfl (lv_at hl 6 rfl) ?_
        refine lv_icmp_ne (tgt := 92) hx hb dX6_isCaught_60 (by decide) (fun c_60 => ?_) (fun c_60 => ?_)
        · have d_60 := c_60
          simp only [kt_lt, kt_le, kt_eq, kt_c0, kt_c1, kt_c2, kt_c3, kt_c4, kt_c8, kt_c9, kt_cm1, kt_c81, kt_c40, kt_c7, kt_c5, kt_c6, kt_c512, kt_c10, kt_c10000] at d_60
          refine lv_iinc (v := nI (k + 1)) (lv' := [(6, .int (nI (k + 1))), (5, .int r_38), (4, .int v), (0, .ref ru), (1, .ref nw), (2, .int p1), (3, .int p2)]) hx hb dX6_isCaught_92 hl (k := 0) rfl (nI_1 _) (by decide) rfl (fun ls hl => ?_)
          refine lv_goto (tgt := 46) hx hb dX6_isCaught_95 (by decide) ?_
          exact ih_46 (k + 1) (by show ((k + 1) ≤ 4 ∧ 4 < (k + 1) + n_46) ∧ ∀ b : Nat, b < (k + 1) → (kt_cap fk lh p1.toNatClampNeg ∨ (b : Int) = p2.toInt) → kt_foe fh fr fk lt p1.toNatClampNeg (kt_al (ff p1.toNatClampNeg).toInt w_ L_ (b : Int) 1); exact ⟨by omega, fun b hb hc => if e : b = k then (by first | (rw [e]; exact hw_84.t c_87) | exact hc.elim (fun h1 => absurd h1 (hv.f c_54)) (fun h2 => absurd ((kt_eq _ _).mpr (by rw [hk0, ← e]; exact h2)) c_60)) else hal b (by omega) hc⟩) H _ hP hD hS ls (lv_sub hl [0, 1, 2, 3, 4, 5, 6] rfl)
        · have d_60 := c_60
          simp only [kt_lt, kt_le, kt_eq, kt_c0, kt_c1, kt_c2, kt_c3, kt_c4, kt_c8, kt_c9, kt_cm1, kt_c81, kt_c40, kt_c7, kt_c5, kt_c6, kt_c512, kt_c10, kt_c10000] at d_60
          refine lv_aload_n hx hb dX6_isCaught_63 rfl (lv_at hl 3 rfl) ?_
          refine lv_aload_n hx hb dX6_isCaught_64 rfl (lv_at hl 4 rfl) ?_
          refine lv_aload_n hx hb dX6_isCaught_65 rfl (lv_at hl 3 rfl) ?_
          refine va_get (D := D) (ci := 6) (C := RX6) (T := TX6) (N := 9) hx hb hts iw_X6_isCaught_X6 hown hK hP 0 rfl rfl 1 (by decide) (hts (.fieldLink RX6 12 "KingTable$Rules" "ground" "LKingTable$Ground;") (kt_wp_X6_isCaught__X6_isCaught_r1 kt_wm3)) (fun _ h9 => h9) rfl dX6_isCaught_66 ?_
          refine lv_iload hx hb dX6_isCaught_69 (lv_at hl 1 rfl) ?_
          refine lv_iload hx hb dX6_isCaught_71 (lv_at hl 0 rfl) ?_
          refine kt_pi (wc := [(gr, .inr (0, [.ref gt, .ref gg, .ref gn, .int gs, .int gm])), (gn, .inl (cI, 324, .inl nb))]) [2, 4] hP hD hS hA rfl (by decide) (fun hPc hDc => va_runV (As := [.int r_38, .int (nI k)]) (rest := [.ref nw, .ref ru]) ⟨hx, hb, hml, hown, hts⟩ (c_X0_besideE l D cI cZ cB H.size gr gt gg gn gs gm nb w_ L_ r_38 (nI k) hgs hnb hgx hnx) (cwV 2 hts gX6_isCaught_X0_beside rfl rfl rfl (by decide +kernel) ⟨Nat.le_of_ble_eq_true rfl, Nat.le_of_ble_eq_true rfl⟩) (kt_preV hN hK hPc hDc 0 (ci := 0) (q := (RX0, TX0, 5)) rfl rfl) rfl rfl hl.1 rfl (lv_room (Nat.le_of_ble_eq_true rfl)) dX6_isCaught_73 ⟨Nat.le_of_ble_eq_true rfl, Nat.le_of_ble_eq_true rfl⟩) (fun r_73 _ H locs hw_73 hP hS => ?_)
          have h73 := hw_73.1 (by omega)
          rw [e38, hk0] at h73
          have h73r := kt_al_r (a := (k : Int)) (n := 1) hw_ hL_ hX2 (by omega)
          rw [← h73] at h73r
          refine lv_iconst (v := 1) hx hb dX6_isCaught_76 (by decide) ?_
          refine lv_aload_n hx hb dX6_isCaught_77 rfl (lv_at hl 3 rfl) ?_
          refine va_get (D := D) (ci := 6) (C := RX6) (T := TX6) (N := 9) hx hb hts iw_X6_isCaught_X6 hown hK hP 0 rfl rfl 3 (by decide) (hts (.fieldLink RX6 22 "KingTable$Rules" "sides" "[I") (kt_wp_X6_isCaught__X6_isCaught_r1 kt_wm4)) (fun _ h9 => h9) rfl dX6_isCaught_78 ?_
          refine lv_iload_n hx hb dX6_isCaught_81 rfl (lv_at hl 5 rfl) ?_
          have hi_3 : vp_in p1 40 := by exact kt_in (by omega) (by omega)
          refine va_iald hx hb hK hP 9 0 rfl rfl hi_3 dX6_isCaught_82 ?_
          refine lv_topi (fun a_82 ea_82 => ?_)
          have ra_82 := hrs.get hi_3
          rw [← ea_82] at ra_82
          have e82 : a_82 = fs p1.toInt.toNat := ea_82
          have hs82 := (hsd_ p1.toInt.toNat (by omega)).1
          rw [← e82] at hs82
          refine lv_isub hx hb dX6_isCaught_83 ?_
          refine lv_topi (fun t_83 et_83 => ?_)
          first | have hk_83 := kt_subx et_83 (by first | omega | (simp only [kt_c0, kt_c1, kt_c2, kt_c3, kt_c4, kt_c8, kt_c9, kt_cm1, kt_c81, kt_c40, kt_c7, kt_c5, kt_c6, kt_c512, kt_c10, kt_c10000]; omega)) (by first | omega | (simp only [kt_c0, kt_c1, kt_c2, kt_c3, kt_c4, kt_c8, kt_c9, kt_cm1, kt_c81, kt_c40, kt_c7, kt_c5, kt_c6, kt_c512, kt_c10, kt_c10000]; omega)) | obtain ⟨k_83, hk_83, hm_83, hM_83⟩ := kt_subk et_83
          try simp only [kt_c0, kt_c1, kt_c2, kt_c3, kt_c4, kt_c8, kt_c9, kt_cm1, kt_c81, kt_c40, kt_c7, kt_c5, kt_c6, kt_c512, kt_c10, kt_c10000] at hk_83
          refine kt_pi (wc := [(ru, .inr (6, [.ref la, .ref gr, .ref rk, .ref rs, .ref rt, .int tt, .int kg, .ref rv, .int vc])), (gr, .inr (0, [.ref gt, .ref gg, .ref gn, .int gs, .int gm])), (gt, .inl (cI, 81, .inl tg)), (nw, .inr (8, [.ref sf, .ref sh, .int tu])), (sh, .inl (cI, 81, .inl fh)), (rs, .inl (cI, 40, .inl fs)), (rt, .inl (cZ, 40, .inl ft))]) [0, 2, 3, 5, 7, 9, 10] hP hD hS hA rfl (by decide) (fun hPc hDc => va_runV (As := [.ref nw, .int r_73, .int t_83]) (rest := []) ⟨hx, hb, hml, hown, hts⟩ (c_X6_isFoeE l D cI cZ cB H.size ru la gr rk rs rt rv tt kg vc lg lh lt lr lc gt gg gn gs gm tg nb nw sf sh tu ff fh fk fs ft w_ L_ P_ gl fr ck p1.toInt.toNat r_73 t_83 hgs hgt htt hfh hrs hrt hrx0 hfo (by omega) (by omega)) (cwV 3 hts gX6_isCaught_X6_isFoe rfl rfl rfl (by decide +kernel) ⟨Nat.le_of_ble_eq_true rfl, Nat.le_of_ble_eq_true rfl⟩) (kt_preV hN hK hPc hDc 0 (ci := 6) (q := (RX6, TX6, 9)) rfl rfl) rfl rfl hl.1 rfl (lv_room (Nat.le_of_ble_eq_true rfl)) dX6_isCaught_84 ⟨Nat.le_of_ble_eq_true rfl, Nat.le_of_ble_eq_true rfl⟩) (fun r_84 _ H locs hw_84 hP hS => ?_)
          rw [h73] at hw_84
          refine lv_if_ne (tgt := 92) hx hb dX6_isCaught_87 (by decide) (fun c_87 => ?_) (fun c_87 => ?_)
          · have d_87 := c_87
            simp only [kt_lt, kt_le, kt_eq, kt_c0, kt_c1, kt_c2, kt_c3, kt_c4, kt_c8, kt_c9, kt_cm1, kt_c81, kt_c40, kt_c7, kt_c5, kt_c6, kt_c512, kt_c10, kt_c10000] at d_87
            refine lv_iinc (v := nI (k + 1)) (lv' := [(6, .int (nI (k + 1))), (5, .int r_38), (4, .int v), (0, .ref ru), (1, .ref nw), (2, .int p1), (3, .int p2)]) hx hb dX6_isCaught_92 hl (k := 0) rfl (nI_1 _) (by decide) rfl (fun ls hl => ?_)
            refine lv_goto (tgt := 46) hx hb dX6_isCaught_95 (by decide) ?_
            exact ih_46 (k + 1) (by show ((k + 1) ≤ 4 ∧ 4 < (k + 1) + n_46) ∧ ∀ b : Nat, b < (k + 1) → (kt_cap fk lh p1.toNatClampNeg ∨ (b : Int) = p2.toInt) → kt_foe fh fr fk lt p1.toNatClampNeg (kt_al (ff p1.toNatClampNeg).toInt w_ L_ (b : Int) 1); exact ⟨by omega, fun b hb hc => if e : b = k then (by first | (rw [e]; exact hw_84.t c_87) | exact hc.elim (fun h1 => absurd h1 (hv.f c_54)) (fun h2 => absurd ((kt_eq _ _).mpr (by rw [hk0, ← e]; exact h2)) c_60)) else hal b (by omega) hc⟩) H _ hP hD hS ls (lv_sub hl [0, 1, 2, 3, 4, 5, 6] rfl)
          · have d_87 := c_87
            simp only [kt_lt, kt_le, kt_eq, kt_c0, kt_c1, kt_c2, kt_c3, kt_c4, kt_c8, kt_c9, kt_cm1, kt_c81, kt_c40, kt_c7, kt_c5, kt_c6, kt_c512, kt_c10, kt_c10000] at d_87
            refine lv_iconst (v := 0) hx hb dX6_isCaught_90 (by decide) ?_
            exact kt_rz () hx hb hr hlk hS dX6_isCaught_91 hP hD (by show kt_B (0 : Int32) (kt_tkn fh fr fk lt lh w_ L_ p1.toNatClampNeg (ff p1.toNatClampNeg).toInt p2.toInt); first
                 | exact Or.inr ⟨rfl, fun h => h.elim (fun h1 => absurd (hv.t c_54) h1.1) (fun h2 => (hw_84.f c_87) (h2.2 k (by omega)))⟩
                 | exact Or.inr ⟨rfl, fun h => h.elim (fun h1 => (hw_84.f c_87) (by rw [show ((k : Nat) : Int) = p2.toInt by rw [← hk0, c_60]]; exact h1.2)) (fun h2 => absurd h2.1 (hv.f c_54))⟩
                 | (by_cases hc : kt_cap fk lh p1.toNatClampNeg; exact Or.inl ⟨rfl, Or.inr ⟨hc, fun b hb => hal b (by omega) (Or.inl hc)⟩⟩; exact Or.inl ⟨rfl, Or.inl ⟨hc, by have h5 := hal p2.toInt.toNat (by omega) (Or.inr (by omega)); rw [show ((p2.toInt.toNat : Nat) : Int) = p2.toInt by omega] at h5; exact h5⟩⟩)) rfl
  refine lv_icmp_eq (tgt := 29) hx hb dX6_isCaught_7 (by decide) (fun c_7 => ?_) (fun c_7 => ?_)
  · have d_7 := c_7
    simp only [kt_lt, kt_le, kt_eq, kt_c0, kt_c1, kt_c2, kt_c3, kt_c4, kt_c8, kt_c9, kt_cm1, kt_c81, kt_c40, kt_c7, kt_c5, kt_c6, kt_c512, kt_c10, kt_c10000] at d_7
    refine lv_iconst (v := 1) hx hb dX6_isCaught_29 (by decide) ?_
    refine lv_goto (tgt := 34) hx hb dX6_isCaught_30 (by decide) ?_
    exact j_34 (1 : Int32) (by show kt_B (1 : Int32) (kt_cap fk lh p1.toNatClampNeg); (have e5 : a_5 = fk p1.toNatClampNeg := ea_5.trans (hck p1.toInt.toNat (by omega))); unfold kt_cap; first | exact Or.inl ⟨rfl, Or.inl (e5.symm.trans c_7)⟩ | exact Or.inl ⟨rfl, Or.inr ⟨hkk.mpr c_15.symm, c_26⟩⟩ | exact Or.inr ⟨rfl, fun h => h.elim (fun h1 => c_7 (e5.trans h1)) (fun h2 => c_15 (hkk.mp h2.1).symm)⟩ | exact Or.inr ⟨rfl, fun h => h.elim (fun h1 => c_7 (e5.trans h1)) (fun h2 => c_26 h2.2)⟩) H _ hP hD hS ls (lv_sub hl [0, 1, 2, 3] rfl)
  · have d_7 := c_7
    simp only [kt_lt, kt_le, kt_eq, kt_c0, kt_c1, kt_c2, kt_c3, kt_c4, kt_c8, kt_c9, kt_cm1, kt_c81, kt_c40, kt_c7, kt_c5, kt_c6, kt_c512, kt_c10, kt_c10000] at d_7
    refine lv_iload_n hx hb dX6_isCaught_10 rfl (lv_at hl 2 rfl) ?_
    refine lv_aload_n hx hb dX6_isCaught_11 rfl (lv_at hl 0 rfl) ?_
    refine va_get (D := D) (ci := 6) (C := RX6) (T := TX6) (N := 9) hx hb hts iw_X6_isCaught_X6 hown hK hP 0 rfl rfl 6 (by decide) (hts (.fieldLink RX6 29 "KingTable$Rules" "king" "I") (kt_wp_X6_isCaught__X6_isCaught_r1 kt_wm1)) (fun _ h9 => h9) rfl dX6_isCaught_12 ?_
    refine lv_icmp_ne (tgt := 33) hx hb dX6_isCaught_15 (by decide) (fun c_15 => ?_) (fun c_15 => ?_)
    · have d_15 := c_15
      simp only [kt_lt, kt_le, kt_eq, kt_c0, kt_c1, kt_c2, kt_c3, kt_c4, kt_c8, kt_c9, kt_cm1, kt_c81, kt_c40, kt_c7, kt_c5, kt_c6, kt_c512, kt_c10, kt_c10000] at d_15
      refine lv_iconst (v := 0) hx hb dX6_isCaught_33 (by decide) ?_
      exact j_34 (0 : Int32) (by show kt_B (0 : Int32) (kt_cap fk lh p1.toNatClampNeg); (have e5 : a_5 = fk p1.toNatClampNeg := ea_5.trans (hck p1.toInt.toNat (by omega))); unfold kt_cap; first | exact Or.inl ⟨rfl, Or.inl (e5.symm.trans c_7)⟩ | exact Or.inl ⟨rfl, Or.inr ⟨hkk.mpr c_15.symm, c_26⟩⟩ | exact Or.inr ⟨rfl, fun h => h.elim (fun h1 => c_7 (e5.trans h1)) (fun h2 => c_15 (hkk.mp h2.1).symm)⟩ | exact Or.inr ⟨rfl, fun h => h.elim (fun h1 => c_7 (e5.trans h1)) (fun h2 => c_26 h2.2)⟩) H _ hP hD hS ls (lv_sub hl [0, 1, 2, 3] rfl)
    · have d_15 := c_15
      simp only [kt_lt, kt_le, kt_eq, kt_c0, kt_c1, kt_c2, kt_c3, kt_c4, kt_c8, kt_c9, kt_cm1, kt_c81, kt_c40, kt_c7, kt_c5, kt_c6, kt_c512, kt_c10, kt_c10000] at d_15
      refine lv_aload_n hx hb dX6_isCaught_18 rfl (lv_at hl 0 rfl) ?_
      refine va_get (D := D) (ci := 6) (C := RX6) (T := TX6) (N := 9) hx hb hts iw_X6_isCaught_X6 hown hK hP 0 rfl rfl 0 (by decide) (hts (.fieldLink RX6 36 "KingTable$Rules" "laws" "LKingTable$Laws;") (kt_wp_X6_isCaught__X6_isCaught_r1 kt_wm2)) (fun _ h9 => h9) rfl dX6_isCaught_19 ?_
      refine va_getN (D := D) (ci := 1) (C := RX1) (T := TX1) (N := 5) hx hb hts iw_X6_isCaught_X1 hown hK hP 1 rfl rfl 1 (by decide) (va_Nw.use (w := .fieldLinkNest RX6 111 "KingTable$Laws" "hard" "I" "KingTable") rfl (hN _ (by decide +kernel))) (fun _ h9 => h9) rfl dX6_isCaught_22 ?_
      refine lv_iconst (v := 4) hx hb dX6_isCaught_25 (by decide) ?_
      refine lv_icmp_ne (tgt := 33) hx hb dX6_isCaught_26 (by decide) (fun c_26 => ?_) (fun c_26 => ?_)
      · have d_26 := c_26
        simp only [kt_lt, kt_le, kt_eq, kt_c0, kt_c1, kt_c2, kt_c3, kt_c4, kt_c8, kt_c9, kt_cm1, kt_c81, kt_c40, kt_c7, kt_c5, kt_c6, kt_c512, kt_c10, kt_c10000] at d_26
        refine lv_iconst (v := 0) hx hb dX6_isCaught_33 (by decide) ?_
        exact j_34 (0 : Int32) (by show kt_B (0 : Int32) (kt_cap fk lh p1.toNatClampNeg); (have e5 : a_5 = fk p1.toNatClampNeg := ea_5.trans (hck p1.toInt.toNat (by omega))); unfold kt_cap; first | exact Or.inl ⟨rfl, Or.inl (e5.symm.trans c_7)⟩ | exact Or.inl ⟨rfl, Or.inr ⟨hkk.mpr c_15.symm, c_26⟩⟩ | exact Or.inr ⟨rfl, fun h => h.elim (fun h1 => c_7 (e5.trans h1)) (fun h2 => c_15 (hkk.mp h2.1).symm)⟩ | exact Or.inr ⟨rfl, fun h => h.elim (fun h1 => c_7 (e5.trans h1)) (fun h2 => c_26 h2.2)⟩) H _ hP hD hS ls (lv_sub hl [0, 1, 2, 3] rfl)
      · have d_26 := c_26
        simp only [kt_lt, kt_le, kt_eq, kt_c0, kt_c1, kt_c2, kt_c3, kt_c4, kt_c8, kt_c9, kt_cm1, kt_c81, kt_c40, kt_c7, kt_c5, kt_c6, kt_c512, kt_c10, kt_c10000] at d_26
        refine lv_iconst (v := 1) hx hb dX6_isCaught_29 (by decide) ?_
        refine lv_goto (tgt := 34) hx hb dX6_isCaught_30 (by decide) ?_
        exact j_34 (1 : Int32) (by show kt_B (1 : Int32) (kt_cap fk lh p1.toNatClampNeg); (have e5 : a_5 = fk p1.toNatClampNeg := ea_5.trans (hck p1.toInt.toNat (by omega))); unfold kt_cap; first | exact Or.inl ⟨rfl, Or.inl (e5.symm.trans c_7)⟩ | exact Or.inl ⟨rfl, Or.inr ⟨hkk.mpr c_15.symm, c_26⟩⟩ | exact Or.inr ⟨rfl, fun h => h.elim (fun h1 => c_7 (e5.trans h1)) (fun h2 => c_15 (hkk.mp h2.1).symm)⟩ | exact Or.inr ⟨rfl, fun h => h.elim (fun h1 => c_7 (e5.trans h1)) (fun h2 => c_26 h2.2)⟩) H _ hP hD hS ls (lv_sub hl [0, 1, 2, 3] rfl)

set_option maxHeartbeats 4000000 in
set_option maxRecDepth 100000 in
theorem c_X6_addVictimE (l : Launch) (D : va_G) (cI cZ cB : ClassId) (sz : Nat) (ru : Nat) (la : Nat) (gr : Nat) (rk : Nat) (rs : Nat) (rt : Nat) (rv : Nat) (tt : Int32) (kg : Int32) (vc : Int32) (fv : Nat → Int32) (p1 : Int32) (hrv : kt_r fv 4 0 39) (hvc : 0 ≤ vc.toInt ∧ vc.toInt ≤ 3) (hp1 : 0 ≤ p1.toInt ∧ p1.toInt ≤ 39) : kt_Mv l yX6_addVictim wsX6_addVictim { frames := 0, cells := 0, slots := 0, locals := 0 } D (kt_ty cI cZ cB) [.ref ru, .int p1] sz [(ru, .inr (6, [.ref la, .ref gr, .ref rk, .ref rs, .ref rt, .int tt, .int kg, .ref rv, .int vc])), (rv, .inl (cI, 4, .inl fv))] (fun (u : (Nat → Int32) × Int32) => (kt_r u.1 4 0 39 ∧ 0 ≤ u.2.toInt ∧ u.2.toInt ≤ 4) ∧ u.2.toInt = vc.toInt + 1 ∧ kt_ins fv u.1 vc.toInt.toNat p1) (fun (u : (Nat → Int32) × Int32) => [(ru, .inr (6, [.ref la, .ref gr, .ref rk, .ref rs, .ref rt, .int tt, .int kg, .ref rv, .int u.2])), (rv, .inl (cI, 4, .inl u.1))]) 0 0 := by
  refine kt_Mv.of (cc := cX6_addVictim) (maxL := 3) (ret := none) (by decide) rfl (Nat.le_of_ble_eq_true rfl) ?_
  intro p e s m below meth c A ls H hAt hP hD hS hl
  obtain ⟨hx, hb, hr, hml, hown, hts, hN, hK, hlk, hnm, hA⟩ := hAt
  have hl : lv_has ls 3 [(0, .ref ru), (1, .int p1)] := hl
  have hown : s.vm.findClass RX6 = some m.cls := hown
  refine lv_aload_n hx hb dX6_addVictim_0 rfl (lv_at hl 0 rfl) ?_
  refine va_get (D := D) (ci := 6) (C := RX6) (T := TX6) (N := 9) hx hb hts iw_X6_addVictim_X6 hown hK hP 0 rfl rfl 8 (by decide) (hts (.fieldLink RX6 93 "KingTable$Rules" "victimCount" "I") (List.mem_cons_of_mem _ (List.mem_append_left _ (List.Mem.head _)))) (fun _ h9 => h9) rfl dX6_addVictim_1 ?_
  refine lv_istore_n (lv' := [(2, .int vc), (0, .ref ru), (1, .int p1)]) hx hb dX6_addVictim_4 rfl hl (by decide) rfl (fun ls hl => ?_)
  refine lv_iload_n hx hb dX6_addVictim_5 rfl (lv_at hl 0 rfl) ?_
  refine lv_iconst (v := 4) hx hb dX6_addVictim_6 (by decide) ?_
  refine lv_icmp_lt (tgt := 11) hx hb dX6_addVictim_7 (by decide) (fun c_7 => ?_) (fun c_7 => ?_)
  · have d_7 := c_7
    simp only [kt_lt, kt_le, kt_eq, kt_c0, kt_c1, kt_c2, kt_c3, kt_c4, kt_c8, kt_c9, kt_cm1, kt_c81, kt_c40, kt_c7, kt_c5, kt_c6, kt_c512, kt_c10, kt_c10000] at d_7
    refine kt_loop (σ := Int32 × (Nat → Int32)) 11 3 (fun u => [(ru, .inr (6, [.ref la, .ref gr, .ref rk, .ref rs, .ref rt, .int tt, .int kg, .ref rv, .int vc])), (rv, .inl (cI, 4, .inl u.2))]) (fun u => [(2, .int u.1), (0, .ref ru), (1, .int p1)]) (fun n u => (0 ≤ u.1.toInt ∧ u.1.toInt ≤ vc.toInt ∧ u.1.toInt < n) ∧ kt_r u.2 4 0 39 ∧ (∀ k : Nat, (k : Int) < u.1.toInt → u.2 k = fv k) ∧ (∀ k : Nat, u.1.toInt < (k : Int) → (k : Int) ≤ vc.toInt → u.2 k = fv (k - 1)) ∧ ∀ k : Nat, u.1.toInt ≤ (k : Int) → (k : Int) < vc.toInt → p1.toInt < (fv k).toInt) (fun u h => by omega) (fun n_11 ih_11 u hI H locs hP hD hS ls hl => ?_) (4) (vc, fv) (by show (0 ≤ vc.toInt ∧ vc.toInt ≤ vc.toInt ∧ vc.toInt < 4) ∧ kt_r fv 4 0 39 ∧ (∀ k : Nat, (k : Int) < vc.toInt → fv k = fv k) ∧ (∀ k : Nat, vc.toInt < (k : Int) → (k : Int) ≤ vc.toInt → fv k = fv (k - 1)) ∧ ∀ k : Nat, vc.toInt ≤ (k : Int) → (k : Int) < vc.toInt → p1.toInt < (fv k).toInt; exact ⟨by omega, hrv, fun _ _ => rfl, fun k h1 h2 => by omega, fun k h1 h2 => by omega⟩) hP hD hS (lv_sub hl [0, 1, 2] rfl)
    obtain ⟨i, g⟩ := u
    have hP : va_P D vwCl [(ru, .inr (6, [.ref la, .ref gr, .ref rk, .ref rs, .ref rt, .int tt, .int kg, .ref rv, .int vc])), (rv, .inl (cI, 4, .inl g))] H := hP
    have hD : va_D A [(ru, .inr (6, [.ref la, .ref gr, .ref rk, .ref rs, .ref rt, .int tt, .int kg, .ref rv, .int vc])), (rv, .inl (cI, 4, .inl g))] := hD
    have hl : lv_has ls 3 [(2, .int i), (0, .ref ru), (1, .int p1)] := hl
    have hI : (0 ≤ i.toInt ∧ i.toInt ≤ vc.toInt ∧ i.toInt < (n_11 + 1)) ∧ kt_r g 4 0 39 ∧ (∀ k : Nat, (k : Int) < i.toInt → g k = fv k) ∧ (∀ k : Nat, i.toInt < (k : Int) → (k : Int) ≤ vc.toInt → g k = fv (k - 1)) ∧ ∀ k : Nat, i.toInt ≤ (k : Int) → (k : Int) < vc.toInt → p1.toInt < (fv k).toInt := hI
    obtain ⟨hib, hrv, hlo, hhi, hgt_⟩ := hI
    refine lv_iload_n hx hb dX6_addVictim_11 rfl (lv_at hl 0 rfl) ?_
    refine lv_if_le (tgt := 47) hx hb dX6_addVictim_12 (by decide) (fun c_12 => ?_) (fun c_12 => ?_)
    · have d_12 := c_12
      simp only [kt_lt, kt_le, kt_eq, kt_c0, kt_c1, kt_c2, kt_c3, kt_c4, kt_c8, kt_c9, kt_cm1, kt_c81, kt_c40, kt_c7, kt_c5, kt_c6, kt_c512, kt_c10, kt_c10000] at d_12
      refine lv_aload_n hx hb dX6_addVictim_47 rfl (lv_at hl 1 rfl) ?_
      refine va_get (D := D) (ci := 6) (C := RX6) (T := TX6) (N := 9) hx hb hts iw_X6_addVictim_X6 hown hK hP 0 rfl rfl 7 (by decide) (hts (.fieldLink RX6 33 "KingTable$Rules" "victims" "[I") (List.mem_cons_of_mem _ (List.mem_append_left _ (List.mem_cons_of_mem _ (List.Mem.head _))))) (fun _ h9 => h9) rfl dX6_addVictim_48 ?_
      refine lv_iload_n hx hb dX6_addVictim_51 rfl (lv_at hl 0 rfl) ?_
      refine lv_iload_n hx hb dX6_addVictim_52 rfl (lv_at hl 2 rfl) ?_
      have hi_1 : vp_in i 4 := by exact kt_in (by omega) (by omega)
      refine va_iast hx hb hK hP hD hS 1 0 rfl rfl hi_1 dX6_addVictim_53 (fun H locs hP hD hS => ?_)
      have hrv : kt_r (upd g i.toNatClampNeg p1) 4 0 39 := hrv.upd (by omega) (by omega)
      have hP : va_P D vwCl [(ru, .inr (6, [.ref la, .ref gr, .ref rk, .ref rs, .ref rt, .int tt, .int kg, .ref rv, .int vc])), (rv, .inl (cI, 4, .inl (upd g i.toNatClampNeg p1)))] H := hP
      have hD : va_D A [(ru, .inr (6, [.ref la, .ref gr, .ref rk, .ref rs, .ref rt, .int tt, .int kg, .ref rv, .int vc])), (rv, .inl (cI, 4, .inl (upd g i.toNatClampNeg p1)))] := hD
      refine lv_aload_n hx hb dX6_addVictim_54 rfl (lv_at hl 1 rfl) ?_
      refine lv_dup hx hb dX6_addVictim_55 rfl ?_
      refine va_get (D := D) (ci := 6) (C := RX6) (T := TX6) (N := 9) hx hb hts iw_X6_addVictim_X6 hown hK hP 0 rfl rfl 8 (by decide) (hts (.fieldLink RX6 93 "KingTable$Rules" "victimCount" "I") (List.mem_cons_of_mem _ (List.mem_append_left _ (List.Mem.head _)))) (fun _ h9 => h9) rfl dX6_addVictim_56 ?_
      refine lv_iconst (v := 1) hx hb dX6_addVictim_59 (by decide) ?_
      refine lv_iadd hx hb dX6_addVictim_60 ?_
      refine lv_topi (fun t_60 et_60 => ?_)
      first | have hk_60 := kt_addx et_60 (by first | omega | (simp only [kt_c0, kt_c1, kt_c2, kt_c3, kt_c4, kt_c8, kt_c9, kt_cm1, kt_c81, kt_c40, kt_c7, kt_c5, kt_c6, kt_c512, kt_c10, kt_c10000]; omega)) (by first | omega | (simp only [kt_c0, kt_c1, kt_c2, kt_c3, kt_c4, kt_c8, kt_c9, kt_cm1, kt_c81, kt_c40, kt_c7, kt_c5, kt_c6, kt_c512, kt_c10, kt_c10000]; omega)) | obtain ⟨k_60, hk_60, hm_60, hM_60⟩ := kt_addk et_60
      try simp only [kt_c0, kt_c1, kt_c2, kt_c3, kt_c4, kt_c8, kt_c9, kt_cm1, kt_c81, kt_c40, kt_c7, kt_c5, kt_c6, kt_c512, kt_c10, kt_c10000] at hk_60
      refine va_put (D := D) (ci := 6) (v := .int t_60) (ty := .int) (C := RX6) (T := TX6) (N := 9) hx hb hts iw_X6_addVictim_X6 tyX6 tyX6_ok nmX6 hown hK hP hD hS 0 rfl rfl 8 (by decide) (hts (.fieldLink RX6 93 "KingTable$Rules" "victimCount" "I") (List.mem_cons_of_mem _ (List.mem_append_left _ (List.Mem.head _)))) (fun _ h9 => h9) rfl (by decide +kernel) rfl rfl (Nat.le_of_ble_eq_true rfl) dX6_addVictim_61 (fun H locs hP hD hS => ?_)
      have hP : va_P D vwCl [(ru, .inr (6, [.ref la, .ref gr, .ref rk, .ref rs, .ref rt, .int tt, .int kg, .ref rv, .int t_60])), (rv, .inl (cI, 4, .inl (upd g i.toNatClampNeg p1)))] H := hP
      have hD : va_D A [(ru, .inr (6, [.ref la, .ref gr, .ref rk, .ref rs, .ref rt, .int tt, .int kg, .ref rv, .int t_60])), (rv, .inl (cI, 4, .inl (upd g i.toNatClampNeg p1)))] := hD
      exact kt_rv (upd g i.toNatClampNeg p1, t_60) hx hb hr hlk hS dX6_addVictim_64 hP hD (by show (kt_r (upd g i.toNatClampNeg p1) 4 0 39 ∧ 0 ≤ t_60.toInt ∧ t_60.toInt ≤ 4) ∧ t_60.toInt = vc.toInt + 1 ∧ kt_ins fv (upd g i.toNatClampNeg p1) vc.toInt.toNat p1; first
          | (exfalso; omega)
          | exact ⟨⟨hrv, by omega⟩, by omega, i.toInt.toNat, by omega, fun k hk => by rw [pk_un (by have : ¬ k = i.toInt.toNat := (by omega); exact this)]; exact hlo k (by omega), pk_us, fun k h1 h2 => by rw [pk_un (by have : ¬ k = i.toInt.toNat := (by omega); exact this)]; exact hhi k (by omega) (by omega), fun k h1 h2 => hgt_ k (by omega) (by omega), fun h => by exfalso; omega⟩
          | exact ⟨⟨hrv, by omega⟩, by omega, i.toInt.toNat, by omega, fun k hk => by rw [pk_un (by have : ¬ k = i.toInt.toNat := (by omega); exact this)]; exact hlo k (by omega), pk_us, fun k h1 h2 => by rw [pk_un (by have : ¬ k = i.toInt.toNat := (by omega); exact this)]; exact hhi k (by omega) (by omega), fun k h1 h2 => hgt_ k (by omega) (by omega), fun h => by rw [← hlo _ (by omega), ← e22]; omega⟩)
    · have d_12 := c_12
      simp only [kt_lt, kt_le, kt_eq, kt_c0, kt_c1, kt_c2, kt_c3, kt_c4, kt_c8, kt_c9, kt_cm1, kt_c81, kt_c40, kt_c7, kt_c5, kt_c6, kt_c512, kt_c10, kt_c10000] at d_12
      refine lv_aload_n hx hb dX6_addVictim_15 rfl (lv_at hl 1 rfl) ?_
      refine va_get (D := D) (ci := 6) (C := RX6) (T := TX6) (N := 9) hx hb hts iw_X6_addVictim_X6 hown hK hP 0 rfl rfl 7 (by decide) (hts (.fieldLink RX6 33 "KingTable$Rules" "victims" "[I") (List.mem_cons_of_mem _ (List.mem_append_left _ (List.mem_cons_of_mem _ (List.Mem.head _))))) (fun _ h9 => h9) rfl dX6_addVictim_16 ?_
      refine lv_iload_n hx hb dX6_addVictim_19 rfl (lv_at hl 0 rfl) ?_
      refine lv_iconst (v := 1) hx hb dX6_addVictim_20 (by decide) ?_
      refine lv_isub hx hb dX6_addVictim_21 ?_
      refine lv_topi (fun t_21 et_21 => ?_)
      first | have hk_21 := kt_subx et_21 (by first | omega | (simp only [kt_c0, kt_c1, kt_c2, kt_c3, kt_c4, kt_c8, kt_c9, kt_cm1, kt_c81, kt_c40, kt_c7, kt_c5, kt_c6, kt_c512, kt_c10, kt_c10000]; omega)) (by first | omega | (simp only [kt_c0, kt_c1, kt_c2, kt_c3, kt_c4, kt_c8, kt_c9, kt_cm1, kt_c81, kt_c40, kt_c7, kt_c5, kt_c6, kt_c512, kt_c10, kt_c10000]; omega)) | obtain ⟨k_21, hk_21, hm_21, hM_21⟩ := kt_subk et_21
      try simp only [kt_c0, kt_c1, kt_c2, kt_c3, kt_c4, kt_c8, kt_c9, kt_cm1, kt_c81, kt_c40, kt_c7, kt_c5, kt_c6, kt_c512, kt_c10, kt_c10000] at hk_21
      have hi_2 : vp_in t_21 4 := by exact kt_in (by omega) (by omega)
      refine va_iald hx hb hK hP 1 0 rfl rfl hi_2 dX6_addVictim_22 ?_
      refine lv_topi (fun a_22 ea_22 => ?_)
      have ra_22 := hrv.get hi_2
      rw [← ea_22] at ra_22
      have e22 : a_22 = g (i.toInt.toNat - 1) := by rw [ea_22, kt_clamp (n := i.toInt.toNat - 1) (by omega)]
      refine lv_iload_n hx hb dX6_addVictim_23 rfl (lv_at hl 2 rfl) ?_
      refine lv_icmp_le (tgt := 47) hx hb dX6_addVictim_24 (by decide) (fun c_24 => ?_) (fun c_24 => ?_)
      · have d_24 := c_24
        simp only [kt_lt, kt_le, kt_eq, kt_c0, kt_c1, kt_c2, kt_c3, kt_c4, kt_c8, kt_c9, kt_cm1, kt_c81, kt_c40, kt_c7, kt_c5, kt_c6, kt_c512, kt_c10, kt_c10000] at d_24
        refine lv_aload_n hx hb dX6_addVictim_47 rfl (lv_at hl 1 rfl) ?_
        refine va_get (D := D) (ci := 6) (C := RX6) (T := TX6) (N := 9) hx hb hts iw_X6_addVictim_X6 hown hK hP 0 rfl rfl 7 (by decide) (hts (.fieldLink RX6 33 "KingTable$Rules" "victims" "[I") (List.mem_cons_of_mem _ (List.mem_append_left _ (List.mem_cons_of_mem _ (List.Mem.head _))))) (fun _ h9 => h9) rfl dX6_addVictim_48 ?_
        refine lv_iload_n hx hb dX6_addVictim_51 rfl (lv_at hl 0 rfl) ?_
        refine lv_iload_n hx hb dX6_addVictim_52 rfl (lv_at hl 2 rfl) ?_
        have hi_3 : vp_in i 4 := by exact kt_in (by omega) (by omega)
        refine va_iast hx hb hK hP hD hS 1 0 rfl rfl hi_3 dX6_addVictim_53 (fun H locs hP hD hS => ?_)
        have hrv : kt_r (upd g i.toNatClampNeg p1) 4 0 39 := hrv.upd (by omega) (by omega)
        have hP : va_P D vwCl [(ru, .inr (6, [.ref la, .ref gr, .ref rk, .ref rs, .ref rt, .int tt, .int kg, .ref rv, .int vc])), (rv, .inl (cI, 4, .inl (upd g i.toNatClampNeg p1)))] H := hP
        have hD : va_D A [(ru, .inr (6, [.ref la, .ref gr, .ref rk, .ref rs, .ref rt, .int tt, .int kg, .ref rv, .int vc])), (rv, .inl (cI, 4, .inl (upd g i.toNatClampNeg p1)))] := hD
        refine lv_aload_n hx hb dX6_addVictim_54 rfl (lv_at hl 1 rfl) ?_
        refine lv_dup hx hb dX6_addVictim_55 rfl ?_
        refine va_get (D := D) (ci := 6) (C := RX6) (T := TX6) (N := 9) hx hb hts iw_X6_addVictim_X6 hown hK hP 0 rfl rfl 8 (by decide) (hts (.fieldLink RX6 93 "KingTable$Rules" "victimCount" "I") (List.mem_cons_of_mem _ (List.mem_append_left _ (List.Mem.head _)))) (fun _ h9 => h9) rfl dX6_addVictim_56 ?_
        refine lv_iconst (v := 1) hx hb dX6_addVictim_59 (by decide) ?_
        refine lv_iadd hx hb dX6_addVictim_60 ?_
        refine lv_topi (fun t_60 et_60 => ?_)
        first | have hk_60 := kt_addx et_60 (by first | omega | (simp only [kt_c0, kt_c1, kt_c2, kt_c3, kt_c4, kt_c8, kt_c9, kt_cm1, kt_c81, kt_c40, kt_c7, kt_c5, kt_c6, kt_c512, kt_c10, kt_c10000]; omega)) (by first | omega | (simp only [kt_c0, kt_c1, kt_c2, kt_c3, kt_c4, kt_c8, kt_c9, kt_cm1, kt_c81, kt_c40, kt_c7, kt_c5, kt_c6, kt_c512, kt_c10, kt_c10000]; omega)) | obtain ⟨k_60, hk_60, hm_60, hM_60⟩ := kt_addk et_60
        try simp only [kt_c0, kt_c1, kt_c2, kt_c3, kt_c4, kt_c8, kt_c9, kt_cm1, kt_c81, kt_c40, kt_c7, kt_c5, kt_c6, kt_c512, kt_c10, kt_c10000] at hk_60
        refine va_put (D := D) (ci := 6) (v := .int t_60) (ty := .int) (C := RX6) (T := TX6) (N := 9) hx hb hts iw_X6_addVictim_X6 tyX6 tyX6_ok nmX6 hown hK hP hD hS 0 rfl rfl 8 (by decide) (hts (.fieldLink RX6 93 "KingTable$Rules" "victimCount" "I") (List.mem_cons_of_mem _ (List.mem_append_left _ (List.Mem.head _)))) (fun _ h9 => h9) rfl (by decide +kernel) rfl rfl (Nat.le_of_ble_eq_true rfl) dX6_addVictim_61 (fun H locs hP hD hS => ?_)
        have hP : va_P D vwCl [(ru, .inr (6, [.ref la, .ref gr, .ref rk, .ref rs, .ref rt, .int tt, .int kg, .ref rv, .int t_60])), (rv, .inl (cI, 4, .inl (upd g i.toNatClampNeg p1)))] H := hP
        have hD : va_D A [(ru, .inr (6, [.ref la, .ref gr, .ref rk, .ref rs, .ref rt, .int tt, .int kg, .ref rv, .int t_60])), (rv, .inl (cI, 4, .inl (upd g i.toNatClampNeg p1)))] := hD
        exact kt_rv (upd g i.toNatClampNeg p1, t_60) hx hb hr hlk hS dX6_addVictim_64 hP hD (by show (kt_r (upd g i.toNatClampNeg p1) 4 0 39 ∧ 0 ≤ t_60.toInt ∧ t_60.toInt ≤ 4) ∧ t_60.toInt = vc.toInt + 1 ∧ kt_ins fv (upd g i.toNatClampNeg p1) vc.toInt.toNat p1; first
            | (exfalso; omega)
            | exact ⟨⟨hrv, by omega⟩, by omega, i.toInt.toNat, by omega, fun k hk => by rw [pk_un (by have : ¬ k = i.toInt.toNat := (by omega); exact this)]; exact hlo k (by omega), pk_us, fun k h1 h2 => by rw [pk_un (by have : ¬ k = i.toInt.toNat := (by omega); exact this)]; exact hhi k (by omega) (by omega), fun k h1 h2 => hgt_ k (by omega) (by omega), fun h => by exfalso; omega⟩
            | exact ⟨⟨hrv, by omega⟩, by omega, i.toInt.toNat, by omega, fun k hk => by rw [pk_un (by have : ¬ k = i.toInt.toNat := (by omega); exact this)]; exact hlo k (by omega), pk_us, fun k h1 h2 => by rw [pk_un (by have : ¬ k = i.toInt.toNat := (by omega); exact this)]; exact hhi k (by omega) (by omega), fun k h1 h2 => hgt_ k (by omega) (by omega), fun h => by rw [← hlo _ (by omega), ← e22]; omega⟩)
      · have d_24 := c_24
        simp only [kt_lt, kt_le, kt_eq, kt_c0, kt_c1, kt_c2, kt_c3, kt_c4, kt_c8, kt_c9, kt_cm1, kt_c81, kt_c40, kt_c7, kt_c5, kt_c6, kt_c512, kt_c10, kt_c10000] at d_24
        refine lv_aload_n hx hb dX6_addVictim_27 rfl (lv_at hl 1 rfl) ?_
        refine va_get (D := D) (ci := 6) (C := RX6) (T := TX6) (N := 9) hx hb hts iw_X6_addVictim_X6 hown hK hP 0 rfl rfl 7 (by decide) (hts (.fieldLink RX6 33 "KingTable$Rules" "victims" "[I") (List.mem_cons_of_mem _ (List.mem_append_left _ (List.mem_cons_of_mem _ (List.Mem.head _))))) (fun _ h9 => h9) rfl dX6_addVictim_28 ?_
        refine lv_iload_n hx hb dX6_addVictim_31 rfl (lv_at hl 0 rfl) ?_
        refine lv_aload_n hx hb dX6_addVictim_32 rfl (lv_at hl 1 rfl) ?_
        refine va_get (D := D) (ci := 6) (C := RX6) (T := TX6) (N := 9) hx hb hts iw_X6_addVictim_X6 hown hK hP 0 rfl rfl 7 (by decide) (hts (.fieldLink RX6 33 "KingTable$Rules" "victims" "[I") (List.mem_cons_of_mem _ (List.mem_append_left _ (List.mem_cons_of_mem _ (List.Mem.head _))))) (fun _ h9 => h9) rfl dX6_addVictim_33 ?_
        refine lv_iload_n hx hb dX6_addVictim_36 rfl (lv_at hl 0 rfl) ?_
        refine lv_iconst (v := 1) hx hb dX6_addVictim_37 (by decide) ?_
        refine lv_isub hx hb dX6_addVictim_38 ?_
        refine lv_topi (fun t_38 et_38 => ?_)
        first | have hk_38 := kt_subx et_38 (by first | omega | (simp only [kt_c0, kt_c1, kt_c2, kt_c3, kt_c4, kt_c8, kt_c9, kt_cm1, kt_c81, kt_c40, kt_c7, kt_c5, kt_c6, kt_c512, kt_c10, kt_c10000]; omega)) (by first | omega | (simp only [kt_c0, kt_c1, kt_c2, kt_c3, kt_c4, kt_c8, kt_c9, kt_cm1, kt_c81, kt_c40, kt_c7, kt_c5, kt_c6, kt_c512, kt_c10, kt_c10000]; omega)) | obtain ⟨k_38, hk_38, hm_38, hM_38⟩ := kt_subk et_38
        try simp only [kt_c0, kt_c1, kt_c2, kt_c3, kt_c4, kt_c8, kt_c9, kt_cm1, kt_c81, kt_c40, kt_c7, kt_c5, kt_c6, kt_c512, kt_c10, kt_c10000] at hk_38
        have hi_4 : vp_in t_38 4 := by exact kt_in (by omega) (by omega)
        refine va_iald hx hb hK hP 1 0 rfl rfl hi_4 dX6_addVictim_39 ?_
        refine lv_topi (fun a_39 ea_39 => ?_)
        have ra_39 := hrv.get hi_4
        rw [← ea_39] at ra_39
        have e39 : a_39 = g (i.toInt.toNat - 1) := by rw [ea_39, kt_clamp (n := i.toInt.toNat - 1) (by omega)]
        have hi_5 : vp_in i 4 := by exact kt_in (by omega) (by omega)
        refine va_iast hx hb hK hP hD hS 1 0 rfl rfl hi_5 dX6_addVictim_40 (fun H locs hP hD hS => ?_)
        have hrv : kt_r (upd g i.toNatClampNeg a_39) 4 0 39 := hrv.upd (by omega) (by omega)
        have hP : va_P D vwCl [(ru, .inr (6, [.ref la, .ref gr, .ref rk, .ref rs, .ref rt, .int tt, .int kg, .ref rv, .int vc])), (rv, .inl (cI, 4, .inl (upd g i.toNatClampNeg a_39)))] H := hP
        have hD : va_D A [(ru, .inr (6, [.ref la, .ref gr, .ref rk, .ref rs, .ref rt, .int tt, .int kg, .ref rv, .int vc])), (rv, .inl (cI, 4, .inl (upd g i.toNatClampNeg a_39)))] := hD
        obtain ⟨t_41, et_41⟩ : ∃ y : Int32, y = i + (-1) := ⟨_, rfl⟩
        obtain ⟨k_41, hk_41, hm_41, hM_41⟩ := kt_addk et_41
        try simp only [kt_c0, kt_c1, kt_c2, kt_c3, kt_c4, kt_c8, kt_c9, kt_cm1, kt_c81, kt_c40, kt_c7, kt_c5, kt_c6, kt_c512, kt_c10, kt_c10000] at hk_41
        refine lv_iinc (v := t_41) (lv' := [(2, .int t_41), (0, .ref ru), (1, .int p1)]) hx hb dX6_addVictim_41 hl (k := 0) rfl (by rw [et_41]; rfl) (by decide) rfl (fun ls hl => ?_)
        refine lv_goto (tgt := 11) hx hb dX6_addVictim_44 (by decide) ?_
        exact ih_11 (t_41, (upd g i.toNatClampNeg a_39)) (by show (0 ≤ t_41.toInt ∧ t_41.toInt ≤ vc.toInt ∧ t_41.toInt < n_11) ∧ kt_r (upd g i.toNatClampNeg a_39) 4 0 39 ∧ (∀ k : Nat, (k : Int) < t_41.toInt → (upd g i.toNatClampNeg a_39) k = fv k) ∧ (∀ k : Nat, t_41.toInt < (k : Int) → (k : Int) ≤ vc.toInt → (upd g i.toNatClampNeg a_39) k = fv (k - 1)) ∧ ∀ k : Nat, t_41.toInt ≤ (k : Int) → (k : Int) < vc.toInt → p1.toInt < (fv k).toInt; exact ⟨by omega, hrv, fun k hk => by rw [pk_un (by have : ¬ k = i.toInt.toNat := (by omega); exact this)]; exact hlo k (by omega), fun k h1 h2 => if e : k = i.toInt.toNat then (by rw [e]; rw [show i.toNatClampNeg = i.toInt.toNat from rfl, pk_us, e39]; exact hlo _ (by omega)) else (by rw [pk_un (show k ≠ i.toNatClampNeg from e)]; exact hhi k (by omega) h2), fun k h1 h2 => if e : k = i.toInt.toNat - 1 then (by rw [e, ← hlo _ (by omega), ← e22]; omega) else hgt_ k (by omega) h2⟩) H _ hP hD hS ls (lv_sub hl [0, 1, 2] rfl)
  · have d_7 := c_7
    simp only [kt_lt, kt_le, kt_eq, kt_c0, kt_c1, kt_c2, kt_c3, kt_c4, kt_c8, kt_c9, kt_cm1, kt_c81, kt_c40, kt_c7, kt_c5, kt_c6, kt_c512, kt_c10, kt_c10000] at d_7
    exact kt_rv (fv, vc) hx hb hr hlk hS dX6_addVictim_10 hP hD (by show (kt_r fv 4 0 39 ∧ 0 ≤ vc.toInt ∧ vc.toInt ≤ 4) ∧ vc.toInt = vc.toInt + 1 ∧ kt_ins fv fv vc.toInt.toNat p1; first
        | (exfalso; omega)
        | exact ⟨⟨hrv, by omega⟩, by omega, i.toInt.toNat, by omega, fun k hk => by rw [pk_un (by have : ¬ k = i.toInt.toNat := (by omega); exact this)]; exact hlo k (by omega), pk_us, fun k h1 h2 => by rw [pk_un (by have : ¬ k = i.toInt.toNat := (by omega); exact this)]; exact hhi k (by omega) (by omega), fun k h1 h2 => hgt_ k (by omega) (by omega), fun h => by exfalso; omega⟩
        | exact ⟨⟨hrv, by omega⟩, by omega, i.toInt.toNat, by omega, fun k hk => by rw [pk_un (by have : ¬ k = i.toInt.toNat := (by omega); exact this)]; exact hlo k (by omega), pk_us, fun k h1 h2 => by rw [pk_un (by have : ¬ k = i.toInt.toNat := (by omega); exact this)]; exact hhi k (by omega) (by omega), fun k h1 h2 => hgt_ k (by omega) (by omega), fun h => by rw [← hlo _ (by omega), ← e22]; omega⟩)

set_option maxHeartbeats 4000000 in
set_option maxRecDepth 100000 in
theorem c_X6_findVictimsE (l : Launch) (D : va_G) (cI cZ cB : ClassId) (sz : Nat) (ru : Nat) (la : Nat) (gr : Nat) (rk : Nat) (rs : Nat) (rt : Nat) (rv : Nat) (tt : Int32) (kg : Int32) (vc : Int32) (lg : Int32) (lh : Int32) (lt : Int32) (lr : Int32) (lc : Int32) (gt : Nat) (gg : Nat) (gn : Nat) (gs : Int32) (gm : Int32) (tg : Nat → Int32) (nb : Nat → Int32) (nw : Nat) (sf : Nat) (sh : Nat) (tu : Int32) (ff : Nat → Int32) (fh : Nat → Int32) (ck : Nat → Int32) (fs : Nat → Int32) (ft : Nat → Int32) (fv : Nat → Int32) (w_ : Int) (L_ : Int) (P_ : Nat) (gl : Nat → Int32) (fk : Nat → Int32) (fr : Nat → Int32) (p1 : Int32) (p2 : Int32) (hgs : 0 ≤ gs.toInt ∧ gs.toInt ≤ 81) (hgt : kt_r tg 81 0 2) (hnb : kt_r nb 324 (-1) 80) (hlr : 0 ≤ lr.toInt ∧ lr.toInt ≤ 8) (htt : 0 ≤ tt.toInt ∧ tt.toInt ≤ 40) (hkg : -1 ≤ kg.toInt ∧ kg.toInt ≤ 39) (hvc : 0 ≤ vc.toInt ∧ vc.toInt ≤ 4) (hff : kt_r ff 40 (-1) 80) (hfh : kt_r fh 81 (-1) 39) (htu : 0 ≤ tu.toInt ∧ tu.toInt ≤ 1) (hrk : kt_r ck 40 0 4) (hrs : kt_r fs 40 0 1) (hrt : kt_r ft 40 0 1) (hrv : kt_r fv 4 0 39) (hrx : kt_RX w_ L_ P_ tt kg gs lg lt tg gl nb fk fs ft fr ck) (hstd : kt_ST w_ L_ P_ ff fh) (hp1 : 0 ≤ p1.toInt ∧ p1.toInt < (P_ : Int)) (hxo : 0 ≤ (ff p1.toNatClampNeg).toInt) (hp2 : 0 ≤ p2.toInt ∧ p2.toInt < L_ * w_) (hfree : ∀ q, q < P_ → ¬ ff q = nI p2.toInt.toNat) : kt_Mi l yX6_findVictims wsX6_findVictims { frames := 2, cells := 0, slots := 0, locals := 50 } D (kt_ty cI cZ cB) [.ref ru, .ref nw, .int p1, .int p2] sz [(ru, .inr (6, [.ref la, .ref gr, .ref rk, .ref rs, .ref rt, .int tt, .int kg, .ref rv, .int vc])), (la, .inr (1, [.int lg, .int lh, .int lt, .int lr, .int lc])), (gr, .inr (0, [.ref gt, .ref gg, .ref gn, .int gs, .int gm])), (gt, .inl (cI, 81, .inl tg)), (gn, .inl (cI, 324, .inl nb)), (nw, .inr (8, [.ref sf, .ref sh, .int tu])), (sf, .inl (cI, 40, .inl ff)), (sh, .inl (cI, 81, .inl fh)), (rk, .inl (cI, 40, .inl ck)), (rs, .inl (cI, 40, .inl fs)), (rt, .inl (cZ, 40, .inl ft)), (rv, .inl (cI, 4, .inl fv))] (fun (r : Int32) (u : (Nat → Int32) × Int32) => r = u.2 ∧ kt_VL u.1 u.2.toInt.toNat (fun j => kt_tks lt (fk p1.toNatClampNeg) ∧ ∃ b : Nat, b < 4 ∧ kt_vic (kt_plc fh (ff p1.toNatClampNeg) p1 p2) fr fk lt lh w_ L_ p1.toNatClampNeg p2.toInt b j) ∧ kt_r u.1 4 0 39 ∧ 0 ≤ u.2.toInt ∧ u.2.toInt ≤ 4) (fun (u : (Nat → Int32) × Int32) => [(ru, .inr (6, [.ref la, .ref gr, .ref rk, .ref rs, .ref rt, .int tt, .int kg, .ref rv, .int u.2])), (la, .inr (1, [.int lg, .int lh, .int lt, .int lr, .int lc])), (gr, .inr (0, [.ref gt, .ref gg, .ref gn, .int gs, .int gm])), (gt, .inl (cI, 81, .inl tg)), (gn, .inl (cI, 324, .inl nb)), (nw, .inr (8, [.ref sf, .ref sh, .int tu])), (sf, .inl (cI, 40, .inl ff)), (sh, .inl (cI, 81, .inl fh)), (rk, .inl (cI, 40, .inl ck)), (rs, .inl (cI, 40, .inl fs)), (rt, .inl (cZ, 40, .inl ft)), (rv, .inl (cI, 4, .inl u.1))]) 0 0 := by
  refine kt_Mi.of (cc := cX6_findVictims) (maxL := 8) (ret := some .int) (by decide) rfl (Nat.le_of_ble_eq_true rfl) ?_
  intro p e s m below meth c A ls H hAt hP hD hS hl
  obtain ⟨hx, hb, hr, hml, hown, hts, hN, hK, hlk, hnm, hA⟩ := hAt
  have hl : lv_has ls 8 [(0, .ref ru), (1, .ref nw), (2, .int p1), (3, .int p2)] := hl
  have hown : s.vm.findClass RX6 = some m.cls := hown
  have hrx0 := hrx
  obtain ⟨hgx, hnx, htf, ⟨htP, hP40⟩, hsd_, hkq, hck, hkr⟩ := hrx
  have hgx1 := hgx.1
  have hw_ := hgx.2.1
  have hL_ := hgx.2.2
  have httP : tt.toInt = (P_ : Int) := by rw [htP, kt_nI (by omega)]
  have hsz := kt_mulb hL_ hw_
  have hp1n := kt_nIof (x := p1) (by omega)
  have hfp := hstd.1
  have hX := hfp.get (kt_in (x := p1) (n := P_) (by omega) (by omega))
  have hmv0 := hstd.move hsz.2 hP40 (p := p1.toInt.toNat) (by omega) hxo hp2 hfree
  have hun0 := hstd.undo hsz.2 hP40 (p := p1.toInt.toNat) (by omega) hxo hp2 hfree
  rw [← hp1n] at hmv0 hun0
  have hmv : kt_ST w_ L_ P_ (upd ff p1.toNatClampNeg p2) (kt_plc fh (ff p1.toNatClampNeg) p1 p2) := hmv0
  have hun : kt_plc (kt_plc fh (ff p1.toNatClampNeg) p1 p2) p2 p1 (ff p1.toNatClampNeg) = fh := hun0
  have hco := hmv.2.1
  have hfo := hco.r (by omega)
  have ht_ : kt_B (ft p1.toNatClampNeg) (kt_tks lt (fk p1.toNatClampNeg)) := (hsd_ p1.toInt.toNat (by omega)).2.1
  refine lv_aload_n hx hb dX6_findVictims_0 rfl (lv_at hl 0 rfl) ?_
  refine lv_iconst (v := 0) hx hb dX6_findVictims_1 (by decide) ?_
  refine va_put (D := D) (ci := 6) (v := .int 0) (ty := .int) (C := RX6) (T := TX6) (N := 9) hx hb hts iw_X6_findVictims_X6 tyX6 tyX6_ok nmX6 hown hK hP hD hS 0 rfl rfl 8 (by decide) (hts (.fieldLink RX6 93 "KingTable$Rules" "victimCount" "I") (kt_wp_X6_findVictims__X6_findVictims_r1 kt_wm0)) (fun _ h9 => h9) rfl (by decide +kernel) rfl rfl (Nat.le_of_ble_eq_true rfl) dX6_findVictims_2 (fun H locs hP hD hS => ?_)
  have hP : va_P D vwCl [(ru, .inr (6, [.ref la, .ref gr, .ref rk, .ref rs, .ref rt, .int tt, .int kg, .ref rv, .int 0])), (la, .inr (1, [.int lg, .int lh, .int lt, .int lr, .int lc])), (gr, .inr (0, [.ref gt, .ref gg, .ref gn, .int gs, .int gm])), (gt, .inl (cI, 81, .inl tg)), (gn, .inl (cI, 324, .inl nb)), (nw, .inr (8, [.ref sf, .ref sh, .int tu])), (sf, .inl (cI, 40, .inl ff)), (sh, .inl (cI, 81, .inl fh)), (rk, .inl (cI, 40, .inl ck)), (rs, .inl (cI, 40, .inl fs)), (rt, .inl (cZ, 40, .inl ft)), (rv, .inl (cI, 4, .inl fv))] H := hP
  have hD : va_D A [(ru, .inr (6, [.ref la, .ref gr, .ref rk, .ref rs, .ref rt, .int tt, .int kg, .ref rv, .int 0])), (la, .inr (1, [.int lg, .int lh, .int lt, .int lr, .int lc])), (gr, .inr (0, [.ref gt, .ref gg, .ref gn, .int gs, .int gm])), (gt, .inl (cI, 81, .inl tg)), (gn, .inl (cI, 324, .inl nb)), (nw, .inr (8, [.ref sf, .ref sh, .int tu])), (sf, .inl (cI, 40, .inl ff)), (sh, .inl (cI, 81, .inl fh)), (rk, .inl (cI, 40, .inl ck)), (rs, .inl (cI, 40, .inl fs)), (rt, .inl (cZ, 40, .inl ft)), (rv, .inl (cI, 4, .inl fv))] := hD
  refine lv_aload_n hx hb dX6_findVictims_5 rfl (lv_at hl 0 rfl) ?_
  refine lv_iload_n hx hb dX6_findVictims_6 rfl (lv_at hl 2 rfl) ?_
  refine kt_pi (wc := [(ru, .inr (6, [.ref la, .ref gr, .ref rk, .ref rs, .ref rt, .int tt, .int kg, .ref rv, .int 0]))]) [0] hP hD hS hA rfl (by decide) (fun hPc hDc => va_runV (As := [.int p1]) (rest := []) ⟨hx, hb, hml, hown, hts⟩ (c_X6_isPiece l D cI cZ cB H.size ru la gr rk rs rt rv tt kg 0 p1 ) (cwV 1 hts gX6_findVictims_X6_isPiece rfl rfl rfl (by decide +kernel) ⟨Nat.le_of_ble_eq_true rfl, Nat.le_of_ble_eq_true rfl⟩) (kt_preV hN hK hPc hDc 0 (ci := 6) (q := (RX6, TX6, 9)) rfl rfl) rfl rfl hl.1 rfl (lv_room (Nat.le_of_ble_eq_true rfl)) dX6_findVictims_7 ⟨Nat.le_of_ble_eq_true rfl, Nat.le_of_ble_eq_true rfl⟩) (fun r_7 _ H locs hw_7 hP hS => ?_)
  have hq1 := hw_7
  refine lv_if_eq (tgt := 22) hx hb dX6_findVictims_10 (by decide) (fun c_10 => ?_) (fun c_10 => ?_)
  · have d_10 := c_10
    simp only [kt_lt, kt_le, kt_eq, kt_c0, kt_c1, kt_c2, kt_c3, kt_c4, kt_c8, kt_c9, kt_cm1, kt_c81, kt_c40, kt_c7, kt_c5, kt_c6, kt_c512, kt_c10, kt_c10000] at d_10
    refine lv_iconst (v := 0) hx hb dX6_findVictims_22 (by decide) ?_
    exact kt_ri (fv, 0) hx hb hr hlk hS dX6_findVictims_23 hP hD (by show (0 : Int32) = (0 : Int32) ∧ kt_VL fv (0 : Int32).toInt.toNat (fun j => kt_tks lt (fk p1.toNatClampNeg) ∧ ∃ b : Nat, b < 4 ∧ kt_vic (kt_plc fh (ff p1.toNatClampNeg) p1 p2) fr fk lt lh w_ L_ p1.toNatClampNeg p2.toInt b j) ∧ kt_r fv 4 0 39 ∧ 0 ≤ (0 : Int32).toInt ∧ (0 : Int32).toInt ≤ 4; first
         | exact ⟨rfl, kt_VL.nil _ (fun j hj h => (ht_.f c_19) h.1), hrv, by decide⟩
         | exact ⟨rfl, by rw [show (4 : Nat) = k by omega]; exact hVL.iff (fun j hj => ⟨fun h => ⟨htk, h⟩, fun h => h.2⟩), hrv, by omega⟩
         | (exfalso; have := hq1.f c_10; omega))
  · have d_10 := c_10
    simp only [kt_lt, kt_le, kt_eq, kt_c0, kt_c1, kt_c2, kt_c3, kt_c4, kt_c8, kt_c9, kt_cm1, kt_c81, kt_c40, kt_c7, kt_c5, kt_c6, kt_c512, kt_c10, kt_c10000] at d_10
    have hq1 := hq1.t c_10
    refine lv_aload_n hx hb dX6_findVictims_13 rfl (lv_at hl 0 rfl) ?_
    refine va_get (D := D) (ci := 6) (C := RX6) (T := TX6) (N := 9) hx hb hts iw_X6_findVictims_X6 hown hK hP 0 rfl rfl 4 (by decide) (hts (.fieldLink RX6 25 "KingTable$Rules" "takers" "[Z") (kt_wp_X6_findVictims__X6_findVictims_r1 kt_wm1)) (fun _ h9 => h9) rfl dX6_findVictims_14 ?_
    refine lv_iload_n hx hb dX6_findVictims_17 rfl (lv_at hl 2 rfl) ?_
    have hi_1 : vp_in p1 40 := by exact kt_in (by omega) (by omega)
    refine va_zald hx hb hK hP 10 1 rfl rfl hi_1 dX6_findVictims_18 ?_
    refine lv_topi (fun a_18 ea_18 => ?_)
    have ra_18 := hrt.get hi_1
    rw [← ea_18] at ra_18
    have e18 : a_18 = ft p1.toNatClampNeg := ea_18
    rw [← e18] at ht_
    refine lv_if_ne (tgt := 24) hx hb dX6_findVictims_19 (by decide) (fun c_19 => ?_) (fun c_19 => ?_)
    · have d_19 := c_19
      simp only [kt_lt, kt_le, kt_eq, kt_c0, kt_c1, kt_c2, kt_c3, kt_c4, kt_c8, kt_c9, kt_cm1, kt_c81, kt_c40, kt_c7, kt_c5, kt_c6, kt_c512, kt_c10, kt_c10000] at d_19
      have htk : kt_tks lt (fk p1.toNatClampNeg) := ht_.t c_19
      refine lv_aload_n hx hb dX6_findVictims_24 rfl (lv_at hl 1 rfl) ?_
      refine lv_iload_n hx hb dX6_findVictims_25 rfl (lv_at hl 2 rfl) ?_
      refine kt_pi (wc := [(nw, .inr (8, [.ref sf, .ref sh, .int tu])), (sf, .inl (cI, 40, .inl ff))]) [5, 6] hP hD hS hA rfl (by decide) (fun hPc hDc => va_runV (As := [.int p1]) (rest := []) ⟨hx, hb, hml, hown, hts⟩ (c_X8_fieldOfE l D cI cZ cB H.size nw sf sh tu ff p1 hff) (cwV 1 hts gX6_findVictims_X8_fieldOf rfl rfl rfl (by decide +kernel) ⟨Nat.le_of_ble_eq_true rfl, Nat.le_of_ble_eq_true rfl⟩) (kt_preV hN hK hPc hDc 0 (ci := 8) (q := (RX8, TX8, 3)) rfl rfl) rfl rfl hl.1 rfl (lv_room (Nat.le_of_ble_eq_true rfl)) dX6_findVictims_26 ⟨Nat.le_of_ble_eq_true rfl, Nat.le_of_ble_eq_true rfl⟩) (fun r_26 _ H locs hw_26 hP hS => ?_)
      have e26 := hw_26.1 (by omega)
      refine lv_istore (lv' := [(4, .int r_26), (0, .ref ru), (1, .ref nw), (2, .int p1), (3, .int p2)]) hx hb dX6_findVictims_29 hl (by decide) rfl (fun ls hl => ?_)
      refine lv_aload_n hx hb dX6_findVictims_31 rfl (lv_at hl 2 rfl) ?_
      refine lv_iload_n hx hb dX6_findVictims_32 rfl (lv_at hl 3 rfl) ?_
      refine lv_iload_n hx hb dX6_findVictims_33 rfl (lv_at hl 4 rfl) ?_
      refine kt_bv (wc := [(nw, .inr (8, [.ref sf, .ref sh, .int tu])), (sf, .inl (cI, 40, .inl ff)), (sh, .inl (cI, 81, .inl fh))]) (wr := [(ru, .inr (6, [.ref la, .ref gr, .ref rk, .ref rs, .ref rt, .int tt, .int kg, .ref rv, .int 0])), (la, .inr (1, [.int lg, .int lh, .int lt, .int lr, .int lc])), (gr, .inr (0, [.ref gt, .ref gg, .ref gn, .int gs, .int gm])), (gt, .inl (cI, 81, .inl tg)), (gn, .inl (cI, 324, .inl nb)), (rk, .inl (cI, 40, .inl ck)), (rs, .inl (cI, 40, .inl fs)), (rt, .inl (cZ, 40, .inl ft)), (rv, .inl (cI, 4, .inl fv))]) [5, 6, 7] [0, 1, 2, 3, 4, 8, 9, 10, 11] hP hD hS hA rfl rfl (by decide) (by decide) (by decide) (fun hPc hDc => va_runV (As := [.int p1, .int p2]) (rest := []) ⟨hx, hb, hml, hown, hts⟩ (c_X8_placeE l D cI cZ cB H.size nw sf sh tu ff fh p1 p2 hff hfh (by omega) (by omega)) (cwV 2 hts gX6_findVictims_X8_place rfl rfl rfl (by decide +kernel) ⟨Nat.le_of_ble_eq_true rfl, Nat.le_of_ble_eq_true rfl⟩) (kt_preV hN hK hPc hDc 0 (ci := 8) (q := (RX8, TX8, 3)) rfl rfl) rfl rfl hl.1 rfl (lv_room (Nat.le_of_ble_eq_true rfl)) dX6_findVictims_34 ⟨Nat.le_of_ble_eq_true rfl, Nat.le_of_ble_eq_true rfl⟩) (fun u_ H locs hw_34 hP hD hS => ?_)
      obtain ⟨ff2_34, fh2_34⟩ := u_
      have hP : va_P D vwCl [(ru, .inr (6, [.ref la, .ref gr, .ref rk, .ref rs, .ref rt, .int tt, .int kg, .ref rv, .int 0])), (la, .inr (1, [.int lg, .int lh, .int lt, .int lr, .int lc])), (gr, .inr (0, [.ref gt, .ref gg, .ref gn, .int gs, .int gm])), (gt, .inl (cI, 81, .inl tg)), (gn, .inl (cI, 324, .inl nb)), (nw, .inr (8, [.ref sf, .ref sh, .int tu])), (sf, .inl (cI, 40, .inl ff2_34)), (sh, .inl (cI, 81, .inl fh2_34)), (rk, .inl (cI, 40, .inl ck)), (rs, .inl (cI, 40, .inl fs)), (rt, .inl (cZ, 40, .inl ft)), (rv, .inl (cI, 4, .inl fv))] H := hP.sub [0, 1, 2, 3, 4, 9, 10, 11, 5, 6, 7, 8] rfl
      have hD : va_D A [(ru, .inr (6, [.ref la, .ref gr, .ref rk, .ref rs, .ref rt, .int tt, .int kg, .ref rv, .int 0])), (la, .inr (1, [.int lg, .int lh, .int lt, .int lr, .int lc])), (gr, .inr (0, [.ref gt, .ref gg, .ref gn, .int gs, .int gm])), (gt, .inl (cI, 81, .inl tg)), (gn, .inl (cI, 324, .inl nb)), (nw, .inr (8, [.ref sf, .ref sh, .int tu])), (sf, .inl (cI, 40, .inl ff2_34)), (sh, .inl (cI, 81, .inl fh2_34)), (rk, .inl (cI, 40, .inl ck)), (rs, .inl (cI, 40, .inl fs)), (rt, .inl (cZ, 40, .inl ft)), (rv, .inl (cI, 4, .inl fv))] := hD.sub [0, 1, 2, 3, 4, 9, 10, 11, 5, 6, 7, 8] (by decide) rfl
      try dsimp only at hw_34
      obtain ⟨⟨hff, hfh⟩, e34, g34⟩ := hw_34
      refine lv_iconst (v := 0) hx hb dX6_findVictims_37 (by decide) ?_
      refine lv_istore (lv' := [(5, .int 0), (4, .int r_26), (0, .ref ru), (1, .ref nw), (2, .int p1), (3, .int p2)]) hx hb dX6_findVictims_38 hl (by decide) rfl (fun ls hl => ?_)
      refine kt_loop (σ := Nat × (Nat → Int32) × Int32) 40 8 (fun u => [(ru, .inr (6, [.ref la, .ref gr, .ref rk, .ref rs, .ref rt, .int tt, .int kg, .ref rv, .int u.2.2])), (la, .inr (1, [.int lg, .int lh, .int lt, .int lr, .int lc])), (gr, .inr (0, [.ref gt, .ref gg, .ref gn, .int gs, .int gm])), (gt, .inl (cI, 81, .inl tg)), (gn, .inl (cI, 324, .inl nb)), (nw, .inr (8, [.ref sf, .ref sh, .int tu])), (sf, .inl (cI, 40, .inl ff2_34)), (sh, .inl (cI, 81, .inl fh2_34)), (rk, .inl (cI, 40, .inl ck)), (rs, .inl (cI, 40, .inl fs)), (rt, .inl (cZ, 40, .inl ft)), (rv, .inl (cI, 4, .inl u.2.1))]) (fun u => [(5, .int (nI u.1)), (4, .int r_26), (0, .ref ru), (1, .ref nw), (2, .int p1), (3, .int p2)]) (fun n u => (u.1 ≤ 4 ∧ 4 < u.1 + n) ∧ kt_r u.2.1 4 0 39 ∧ (0 ≤ u.2.2.toInt ∧ u.2.2.toInt ≤ (u.1 : Int)) ∧ kt_VL u.2.1 u.2.2.toInt.toNat (fun j => ∃ b : Nat, b < u.1 ∧ kt_vic (kt_plc fh (ff p1.toNatClampNeg) p1 p2) fr fk lt lh w_ L_ p1.toNatClampNeg p2.toInt b j)) (fun u h => by omega) (fun n_40 ih_40 u hI H locs hP hD hS ls hl => ?_) (5) (0, fv, (0 : Int32)) (by show (0 ≤ 4 ∧ 4 < 0 + 5) ∧ kt_r fv 4 0 39 ∧ (0 ≤ (0 : Int32).toInt ∧ (0 : Int32).toInt ≤ (0 : Int)) ∧ kt_VL fv (0 : Int32).toInt.toNat (fun j => ∃ b : Nat, b < 0 ∧ kt_vic (kt_plc fh (ff p1.toNatClampNeg) p1 p2) fr fk lt lh w_ L_ p1.toNatClampNeg p2.toInt b j); exact ⟨by decide, hrv, by decide, kt_VL.nil _ (fun j hj ⟨b, hb, _⟩ => absurd hb (Nat.not_lt_zero b))⟩) hP hD hS (lv_sub hl [0, 1, 2, 3, 4, 5] rfl)
      obtain ⟨k, g, v⟩ := u
      have hP : va_P D vwCl [(ru, .inr (6, [.ref la, .ref gr, .ref rk, .ref rs, .ref rt, .int tt, .int kg, .ref rv, .int v])), (la, .inr (1, [.int lg, .int lh, .int lt, .int lr, .int lc])), (gr, .inr (0, [.ref gt, .ref gg, .ref gn, .int gs, .int gm])), (gt, .inl (cI, 81, .inl tg)), (gn, .inl (cI, 324, .inl nb)), (nw, .inr (8, [.ref sf, .ref sh, .int tu])), (sf, .inl (cI, 40, .inl ff2_34)), (sh, .inl (cI, 81, .inl fh2_34)), (rk, .inl (cI, 40, .inl ck)), (rs, .inl (cI, 40, .inl fs)), (rt, .inl (cZ, 40, .inl ft)), (rv, .inl (cI, 4, .inl g))] H := hP
      have hD : va_D A [(ru, .inr (6, [.ref la, .ref gr, .ref rk, .ref rs, .ref rt, .int tt, .int kg, .ref rv, .int v])), (la, .inr (1, [.int lg, .int lh, .int lt, .int lr, .int lc])), (gr, .inr (0, [.ref gt, .ref gg, .ref gn, .int gs, .int gm])), (gt, .inl (cI, 81, .inl tg)), (gn, .inl (cI, 324, .inl nb)), (nw, .inr (8, [.ref sf, .ref sh, .int tu])), (sf, .inl (cI, 40, .inl ff2_34)), (sh, .inl (cI, 81, .inl fh2_34)), (rk, .inl (cI, 40, .inl ck)), (rs, .inl (cI, 40, .inl fs)), (rt, .inl (cZ, 40, .inl ft)), (rv, .inl (cI, 4, .inl g))] := hD
      have hl : lv_has ls 8 [(5, .int (nI k)), (4, .int r_26), (0, .ref ru), (1, .ref nw), (2, .int p1), (3, .int p2)] := hl
      have hI : (k ≤ 4 ∧ 4 < k + (n_40 + 1)) ∧ kt_r g 4 0 39 ∧ (0 ≤ v.toInt ∧ v.toInt ≤ (k : Int)) ∧ kt_VL g v.toInt.toNat (fun j => ∃ b : Nat, b < k ∧ kt_vic (kt_plc fh (ff p1.toNatClampNeg) p1 p2) fr fk lt lh w_ L_ p1.toNatClampNeg p2.toInt b j) := hI
      obtain ⟨hkn, hrv, hvc, hVL⟩ := hI
      have hk0 := kt_nI (n := k) (by omega)
      refine lv_iload hx hb dX6_findVictims_40 (lv_at hl 0 rfl) ?_
      refine lv_iconst (v := 4) hx hb dX6_findVictims_42 (by decide) ?_
      refine lv_icmp_ge (tgt := 115) hx hb dX6_findVictims_43 (by decide) (fun c_43 => ?_) (fun c_43 => ?_)
      · have d_43 := c_43
        simp only [kt_lt, kt_le, kt_eq, kt_c0, kt_c1, kt_c2, kt_c3, kt_c4, kt_c8, kt_c9, kt_cm1, kt_c81, kt_c40, kt_c7, kt_c5, kt_c6, kt_c512, kt_c10, kt_c10000] at d_43
        refine lv_aload_n hx hb dX6_findVictims_115 rfl (lv_at hl 3 rfl) ?_
        refine lv_iload_n hx hb dX6_findVictims_116 rfl (lv_at hl 4 rfl) ?_
        refine lv_iload hx hb dX6_findVictims_117 (lv_at hl 1 rfl) ?_
        refine kt_bv (wc := [(nw, .inr (8, [.ref sf, .ref sh, .int tu])), (sf, .inl (cI, 40, .inl ff2_34)), (sh, .inl (cI, 81, .inl fh2_34))]) (wr := [(ru, .inr (6, [.ref la, .ref gr, .ref rk, .ref rs, .ref rt, .int tt, .int kg, .ref rv, .int v])), (la, .inr (1, [.int lg, .int lh, .int lt, .int lr, .int lc])), (gr, .inr (0, [.ref gt, .ref gg, .ref gn, .int gs, .int gm])), (gt, .inl (cI, 81, .inl tg)), (gn, .inl (cI, 324, .inl nb)), (rk, .inl (cI, 40, .inl ck)), (rs, .inl (cI, 40, .inl fs)), (rt, .inl (cZ, 40, .inl ft)), (rv, .inl (cI, 4, .inl g))]) [5, 6, 7] [0, 1, 2, 3, 4, 8, 9, 10, 11] hP hD hS hA rfl rfl (by decide) (by decide) (by decide) (fun hPc hDc => va_runV (As := [.int p1, .int r_26]) (rest := []) ⟨hx, hb, hml, hown, hts⟩ (c_X8_placeE l D cI cZ cB H.size nw sf sh tu ff2_34 fh2_34 p1 r_26 hff hfh (by omega) (by rw [e26]; omega)) (cwV 2 hts gX6_findVictims_X8_place rfl rfl rfl (by decide +kernel) ⟨Nat.le_of_ble_eq_true rfl, Nat.le_of_ble_eq_true rfl⟩) (kt_preV hN hK hPc hDc 0 (ci := 8) (q := (RX8, TX8, 3)) rfl rfl) rfl rfl hl.1 rfl (lv_room (Nat.le_of_ble_eq_true rfl)) dX6_findVictims_119 ⟨Nat.le_of_ble_eq_true rfl, Nat.le_of_ble_eq_true rfl⟩) (fun u_ H locs hw_119 hP hD hS => ?_)
        obtain ⟨ff2_119, fh2_119⟩ := u_
        have hP : va_P D vwCl [(ru, .inr (6, [.ref la, .ref gr, .ref rk, .ref rs, .ref rt, .int tt, .int kg, .ref rv, .int v])), (la, .inr (1, [.int lg, .int lh, .int lt, .int lr, .int lc])), (gr, .inr (0, [.ref gt, .ref gg, .ref gn, .int gs, .int gm])), (gt, .inl (cI, 81, .inl tg)), (gn, .inl (cI, 324, .inl nb)), (nw, .inr (8, [.ref sf, .ref sh, .int tu])), (sf, .inl (cI, 40, .inl ff2_119)), (sh, .inl (cI, 81, .inl fh2_119)), (rk, .inl (cI, 40, .inl ck)), (rs, .inl (cI, 40, .inl fs)), (rt, .inl (cZ, 40, .inl ft)), (rv, .inl (cI, 4, .inl g))] H := hP.sub [0, 1, 2, 3, 4, 9, 10, 11, 5, 6, 7, 8] rfl
        have hD : va_D A [(ru, .inr (6, [.ref la, .ref gr, .ref rk, .ref rs, .ref rt, .int tt, .int kg, .ref rv, .int v])), (la, .inr (1, [.int lg, .int lh, .int lt, .int lr, .int lc])), (gr, .inr (0, [.ref gt, .ref gg, .ref gn, .int gs, .int gm])), (gt, .inl (cI, 81, .inl tg)), (gn, .inl (cI, 324, .inl nb)), (nw, .inr (8, [.ref sf, .ref sh, .int tu])), (sf, .inl (cI, 40, .inl ff2_119)), (sh, .inl (cI, 81, .inl fh2_119)), (rk, .inl (cI, 40, .inl ck)), (rs, .inl (cI, 40, .inl fs)), (rt, .inl (cZ, 40, .inl ft)), (rv, .inl (cI, 4, .inl g))] := hD.sub [0, 1, 2, 3, 4, 9, 10, 11, 5, 6, 7, 8] (by decide) rfl
        try dsimp only at hw_119
        obtain ⟨⟨hff, hfh⟩, e119, g119⟩ := hw_119
        have eF : ff2_119 = ff := by rw [e119, e34, e26, fa_upd_twice_]; exact kt_upd_same ff _
        have eH : fh2_119 = fh := by rw [g119, g34, e34, pk_us, e26]; exact hun
        rw [eF, eH] at hP hD
        refine lv_aload_n hx hb dX6_findVictims_122 rfl (lv_at hl 2 rfl) ?_
        refine va_get (D := D) (ci := 6) (C := RX6) (T := TX6) (N := 9) hx hb hts iw_X6_findVictims_X6 hown hK hP 0 rfl rfl 8 (by decide) (hts (.fieldLink RX6 93 "KingTable$Rules" "victimCount" "I") (kt_wp_X6_findVictims__X6_findVictims_r1 kt_wm0)) (fun _ h9 => h9) rfl dX6_findVictims_123 ?_
        exact kt_ri (g, v) hx hb hr hlk hS dX6_findVictims_126 hP hD (by show v = v ∧ kt_VL g v.toInt.toNat (fun j => kt_tks lt (fk p1.toNatClampNeg) ∧ ∃ b : Nat, b < 4 ∧ kt_vic (kt_plc fh (ff p1.toNatClampNeg) p1 p2) fr fk lt lh w_ L_ p1.toNatClampNeg p2.toInt b j) ∧ kt_r g 4 0 39 ∧ 0 ≤ v.toInt ∧ v.toInt ≤ 4; first
             | exact ⟨rfl, kt_VL.nil _ (fun j hj h => (ht_.f c_19) h.1), hrv, by decide⟩
             | exact ⟨rfl, by rw [show (4 : Nat) = k by omega]; exact hVL.iff (fun j hj => ⟨fun h => ⟨htk, h⟩, fun h => h.2⟩), hrv, by omega⟩
             | (exfalso; have := hq1.f c_10; omega))
      · have d_43 := c_43
        simp only [kt_lt, kt_le, kt_eq, kt_c0, kt_c1, kt_c2, kt_c3, kt_c4, kt_c8, kt_c9, kt_cm1, kt_c81, kt_c40, kt_c7, kt_c5, kt_c6, kt_c512, kt_c10, kt_c10000] at d_43
        refine lv_aload_n hx hb dX6_findVictims_46 rfl (lv_at hl 2 rfl) ?_
        refine va_get (D := D) (ci := 6) (C := RX6) (T := TX6) (N := 9) hx hb hts iw_X6_findVictims_X6 hown hK hP 0 rfl rfl 1 (by decide) (hts (.fieldLink RX6 12 "KingTable$Rules" "ground" "LKingTable$Ground;") (kt_wp_X6_findVictims__X6_findVictims_r1 kt_wm2)) (fun _ h9 => h9) rfl dX6_findVictims_47 ?_
        refine lv_iload_n hx hb dX6_findVictims_50 rfl (lv_at hl 5 rfl) ?_
        refine lv_iload hx hb dX6_findVictims_51 (lv_at hl 0 rfl) ?_
        refine kt_pi (wc := [(gr, .inr (0, [.ref gt, .ref gg, .ref gn, .int gs, .int gm])), (gn, .inl (cI, 324, .inl nb))]) [2, 4] hP hD hS hA rfl (by decide) (fun hPc hDc => va_runV (As := [.int p2, .int (nI k)]) (rest := []) ⟨hx, hb, hml, hown, hts⟩ (c_X0_besideE l D cI cZ cB H.size gr gt gg gn gs gm nb w_ L_ p2 (nI k) hgs hnb hgx hnx) (cwV 2 hts gX6_findVictims_X0_beside rfl rfl rfl (by decide +kernel) ⟨Nat.le_of_ble_eq_true rfl, Nat.le_of_ble_eq_true rfl⟩) (kt_preV hN hK hPc hDc 0 (ci := 0) (q := (RX0, TX0, 5)) rfl rfl) rfl rfl hl.1 rfl (lv_room (Nat.le_of_ble_eq_true rfl)) dX6_findVictims_53 ⟨Nat.le_of_ble_eq_true rfl, Nat.le_of_ble_eq_true rfl⟩) (fun r_53 _ H locs hw_53 hP hS => ?_)
        have h53 := hw_53.1 (by omega)
        rw [hk0] at h53
        have h53r := kt_al_r (a := (k : Int)) (n := 1) hw_ hL_ hp2 (by omega)
        rw [← h53] at h53r
        refine lv_istore (lv' := [(6, .int r_53), (5, .int (nI k)), (4, .int r_26), (0, .ref ru), (1, .ref nw), (2, .int p1), (3, .int p2)]) hx hb dX6_findVictims_56 hl (by decide) rfl (fun ls hl => ?_)
        refine lv_aload_n hx hb dX6_findVictims_58 rfl (lv_at hl 4 rfl) ?_
        refine lv_iload hx hb dX6_findVictims_59 (lv_at hl 0 rfl) ?_
        refine kt_pi (wc := [(nw, .inr (8, [.ref sf, .ref sh, .int tu])), (sh, .inl (cI, 81, .inl fh2_34))]) [5, 7] hP hD hS hA rfl (by decide) (fun hPc hDc => va_runV (As := [.int r_53]) (rest := []) ⟨hx, hb, hml, hown, hts⟩ (c_X8_holderOfE l D cI cZ cB H.size nw sf sh tu fh2_34 r_53 hfh) (cwV 1 hts gX6_findVictims_X8_holderOf rfl rfl rfl (by decide +kernel) ⟨Nat.le_of_ble_eq_true rfl, Nat.le_of_ble_eq_true rfl⟩) (kt_preV hN hK hPc hDc 0 (ci := 8) (q := (RX8, TX8, 3)) rfl rfl) rfl rfl hl.1 rfl (lv_room (Nat.le_of_ble_eq_true rfl)) dX6_findVictims_61 ⟨Nat.le_of_ble_eq_true rfl, Nat.le_of_ble_eq_true rfl⟩) (fun r_61 _ H locs hw_61 hP hS => ?_)
        rw [g34] at hw_61
        refine lv_istore (lv' := [(7, .int r_61), (6, .int r_53), (5, .int (nI k)), (4, .int r_26), (0, .ref ru), (1, .ref nw), (2, .int p1), (3, .int p2)]) hx hb dX6_findVictims_64 hl (by decide) rfl (fun ls hl => ?_)
        have hV : ∀ j : Nat, j < 40 → kt_vic (kt_plc fh (ff p1.toNatClampNeg) p1 p2) fr fk lt lh w_ L_ p1.toNatClampNeg p2.toInt k j → r_61 = nI j ∧ j < P_ := by
          intro j hj ⟨v1, v2, v3, v4⟩
          rw [← h53] at v1 v2
          have e1 := hw_61.1 (by omega)
          have e2 : (kt_plc fh (ff p1.toNatClampNeg) p1 p2) r_53.toInt.toNat = nI j := v2
          obtain ⟨q1, b1, b2, b3⟩ := hco r_53.toInt.toNat (by omega) (by rw [e2]; exact kt_nIm1 (by omega))
          rw [e2] at b2
          have e3 := kt_nIinj (by omega) (by omega) b2
          exact ⟨e1.trans e2, by omega⟩
        refine lv_aload_n hx hb dX6_findVictims_66 rfl (lv_at hl 4 rfl) ?_
        refine lv_iload hx hb dX6_findVictims_67 (lv_at hl 0 rfl) ?_
        refine kt_pi (wc := [(ru, .inr (6, [.ref la, .ref gr, .ref rk, .ref rs, .ref rt, .int tt, .int kg, .ref rv, .int v]))]) [0] hP hD hS hA rfl (by decide) (fun hPc hDc => va_runV (As := [.int r_61]) (rest := []) ⟨hx, hb, hml, hown, hts⟩ (c_X6_isPiece l D cI cZ cB H.size ru la gr rk rs rt rv tt kg v r_61 ) (cwV 1 hts gX6_findVictims_X6_isPiece rfl rfl rfl (by decide +kernel) ⟨Nat.le_of_ble_eq_true rfl, Nat.le_of_ble_eq_true rfl⟩) (kt_preV hN hK hPc hDc 0 (ci := 6) (q := (RX6, TX6, 9)) rfl rfl) rfl rfl hl.1 rfl (lv_room (Nat.le_of_ble_eq_true rfl)) dX6_findVictims_69 ⟨Nat.le_of_ble_eq_true rfl, Nat.le_of_ble_eq_true rfl⟩) (fun r_69 _ H locs hw_69 hP hS => ?_)
        have hq2 := hw_69
        refine kt_join (σ := (Nat → Int32) × Int32) 109 8 (fun u => [(ru, .inr (6, [.ref la, .ref gr, .ref rk, .ref rs, .ref rt, .int tt, .int kg, .ref rv, .int u.2])), (la, .inr (1, [.int lg, .int lh, .int lt, .int lr, .int lc])), (gr, .inr (0, [.ref gt, .ref gg, .ref gn, .int gs, .int gm])), (gt, .inl (cI, 81, .inl tg)), (gn, .inl (cI, 324, .inl nb)), (nw, .inr (8, [.ref sf, .ref sh, .int tu])), (sf, .inl (cI, 40, .inl ff2_34)), (sh, .inl (cI, 81, .inl fh2_34)), (rk, .inl (cI, 40, .inl ck)), (rs, .inl (cI, 40, .inl fs)), (rt, .inl (cZ, 40, .inl ft)), (rv, .inl (cI, 4, .inl u.1))]) (fun u => [(7, .int r_61), (6, .int r_53), (5, .int (nI k)), (4, .int r_26), (0, .ref ru), (1, .ref nw), (2, .int p1), (3, .int p2)]) (fun u => []) (fun u => kt_r u.1 4 0 39 ∧ (0 ≤ u.2.toInt ∧ u.2.toInt ≤ (k : Int) + 1) ∧ kt_VL u.1 u.2.toInt.toNat (fun j => ∃ b : Nat, b < k + 1 ∧ kt_vic (kt_plc fh (ff p1.toNatClampNeg) p1 p2) fr fk lt lh w_ L_ p1.toNatClampNeg p2.toInt b j)) (D := D) (A := A) (H0 := s.heap) (fun u hI H locs hP hD hS ls hl => ?_) (fun j_109 => ?_)
        · obtain ⟨g, v⟩ := u
          have hP : va_P D vwCl [(ru, .inr (6, [.ref la, .ref gr, .ref rk, .ref rs, .ref rt, .int tt, .int kg, .ref rv, .int v])), (la, .inr (1, [.int lg, .int lh, .int lt, .int lr, .int lc])), (gr, .inr (0, [.ref gt, .ref gg, .ref gn, .int gs, .int gm])), (gt, .inl (cI, 81, .inl tg)), (gn, .inl (cI, 324, .inl nb)), (nw, .inr (8, [.ref sf, .ref sh, .int tu])), (sf, .inl (cI, 40, .inl ff2_34)), (sh, .inl (cI, 81, .inl fh2_34)), (rk, .inl (cI, 40, .inl ck)), (rs, .inl (cI, 40, .inl fs)), (rt, .inl (cZ, 40, .inl ft)), (rv, .inl (cI, 4, .inl g))] H := hP
          have hD : va_D A [(ru, .inr (6, [.ref la, .ref gr, .ref rk, .ref rs, .ref rt, .int tt, .int kg, .ref rv, .int v])), (la, .inr (1, [.int lg, .int lh, .int lt, .int lr, .int lc])), (gr, .inr (0, [.ref gt, .ref gg, .ref gn, .int gs, .int gm])), (gt, .inl (cI, 81, .inl tg)), (gn, .inl (cI, 324, .inl nb)), (nw, .inr (8, [.ref sf, .ref sh, .int tu])), (sf, .inl (cI, 40, .inl ff2_34)), (sh, .inl (cI, 81, .inl fh2_34)), (rk, .inl (cI, 40, .inl ck)), (rs, .inl (cI, 40, .inl fs)), (rt, .inl (cZ, 40, .inl ft)), (rv, .inl (cI, 4, .inl g))] := hD
          have hl : lv_has ls 8 [(7, .int r_61), (6, .int r_53), (5, .int (nI k)), (4, .int r_26), (0, .ref ru), (1, .ref nw), (2, .int p1), (3, .int p2)] := hl
          have hI : kt_r g 4 0 39 ∧ (0 ≤ v.toInt ∧ v.toInt ≤ (k : Int) + 1) ∧ kt_VL g v.toInt.toNat (fun j => ∃ b : Nat, b < k + 1 ∧ kt_vic (kt_plc fh (ff p1.toNatClampNeg) p1 p2) fr fk lt lh w_ L_ p1.toNatClampNeg p2.toInt b j) := hI
          obtain ⟨hrv, hvc, hVL⟩ := hI
          refine lv_iinc (v := nI (k + 1)) (lv' := [(5, .int (nI (k + 1))), (7, .int r_61), (6, .int r_53), (4, .int r_26), (0, .ref ru), (1, .ref nw), (2, .int p1), (3, .int p2)]) hx hb dX6_findVictims_109 hl (k := 2) rfl (nI_1 _) (by decide) rfl (fun ls hl => ?_)
          refine lv_goto (tgt := 40) hx hb dX6_findVictims_112 (by decide) ?_
          exact ih_40 ((k + 1), g, v) (by show ((k + 1) ≤ 4 ∧ 4 < (k + 1) + n_40) ∧ kt_r g 4 0 39 ∧ (0 ≤ v.toInt ∧ v.toInt ≤ ((k + 1) : Int)) ∧ kt_VL g v.toInt.toNat (fun j => ∃ b : Nat, b < (k + 1) ∧ kt_vic (kt_plc fh (ff p1.toNatClampNeg) p1 p2) fr fk lt lh w_ L_ p1.toNatClampNeg p2.toInt b j); exact ⟨by omega, hrv, by omega, hVL⟩) H _ hP hD hS ls (lv_sub hl [0, 3, 4, 5, 6, 7] rfl)
        refine lv_if_eq (tgt := 109) hx hb dX6_findVictims_72 (by decide) (fun c_72 => ?_) (fun c_72 => ?_)
        · have d_72 := c_72
          simp only [kt_lt, kt_le, kt_eq, kt_c0, kt_c1, kt_c2, kt_c3, kt_c4, kt_c8, kt_c9, kt_cm1, kt_c81, kt_c40, kt_c7, kt_c5, kt_c6, kt_c512, kt_c10, kt_c10000] at d_72
          exact j_109 (g, v) (by show kt_r g 4 0 39 ∧ (0 ≤ v.toInt ∧ v.toInt ≤ (k : Int) + 1) ∧ kt_VL g v.toInt.toNat (fun j => ∃ b : Nat, b < k + 1 ∧ kt_vic (kt_plc fh (ff p1.toNatClampNeg) p1 p2) fr fk lt lh w_ L_ p1.toNatClampNeg p2.toInt b j); first
                  | exact ⟨hrv, by omega, hVL.iff (fun j hj => ⟨fun ⟨b, hb, hv⟩ => ⟨b, by omega, hv⟩, fun ⟨b, hb, hv⟩ => ⟨b, Nat.lt_of_le_of_ne (by omega) (fun e => by rw [e] at hv; obtain ⟨h1, h2⟩ := hV j hj hv; have h3 := hq2.f c_72; rw [h1, kt_nI (by omega)] at h3; omega), hv⟩⟩)⟩
                  | exact ⟨hrv, by omega, hVL.iff (fun j hj => ⟨fun ⟨b, hb, hv⟩ => ⟨b, by omega, hv⟩, fun ⟨b, hb, hv⟩ => ⟨b, Nat.lt_of_le_of_ne (by omega) (fun e => by rw [e] at hv; obtain ⟨h1, h2⟩ := hV j hj hv; have h4 := kt_nIinj (by omega) (by omega) (n61.symm.trans h1); rw [h4] at hs81; exact hv.2.2.1 (by have h5 := congrArg Int32.toInt c_88; omega)), hv⟩⟩)⟩
                  | exact ⟨hrv, by omega, hVL.iff (fun j hj => ⟨fun ⟨b, hb, hv⟩ => ⟨b, by omega, hv⟩, fun ⟨b, hb, hv⟩ => ⟨b, Nat.lt_of_le_of_ne (by omega) (fun e => by rw [e] at hv; obtain ⟨h1, h2⟩ := hV j hj hv; have h4 := kt_nIinj (by omega) (by omega) (n61.symm.trans h1); have h5 := hw_97.f c_100; rw [c61, h4] at h5; exact h5 hv.2.2.2), hv⟩⟩)⟩
                  | exact ⟨hrv, by omega, by rw [show vc2_106.toInt.toNat = v.toInt.toNat + 1 by omega]; exact (hVL.add (by omega) (by omega) hnew (by rw [← n61]; exact hins)).iff (fun j hj => ⟨fun h => h.elim (fun ⟨b, hb, hv⟩ => ⟨b, by omega, hv⟩) (fun e => ⟨k, by omega, by rw [e]; exact hyes⟩), fun ⟨b, hb, hv⟩ => if e : b = k then (by rw [e] at hv; obtain ⟨h1, h2⟩ := hV j hj hv; exact Or.inr (kt_nIinj (by omega) (by omega) (n61.symm.trans h1)).symm) else Or.inl ⟨b, by omega, hv⟩⟩)⟩) H _ hP hD hS ls (lv_sub hl [0, 1, 2, 3, 4, 5, 6, 7] rfl)
        · have d_72 := c_72
          simp only [kt_lt, kt_le, kt_eq, kt_c0, kt_c1, kt_c2, kt_c3, kt_c4, kt_c8, kt_c9, kt_cm1, kt_c81, kt_c40, kt_c7, kt_c5, kt_c6, kt_c512, kt_c10, kt_c10000] at d_72
          have hq2 := hq2.t c_72
          have hr53 : 0 ≤ r_53.toInt ∧ r_53.toInt < 81 := by
            rcases Int.lt_or_le r_53.toInt 0 with h | h
            · have h9 := hw_61.2.1 (by omega)
              rw [h9, kt_cm1] at hq2
              omega
            · omega
          have e61 : r_61 = (kt_plc fh (ff p1.toNatClampNeg) p1 p2) r_53.toInt.toNat := hw_61.1 hr53
          have n61 := kt_nIof (x := r_61) hq2.1
          have c61 : r_61.toNatClampNeg = r_61.toInt.toNat := rfl
          obtain ⟨hF61_, hq61⟩ : (upd ff p1.toNatClampNeg p2) r_61.toInt.toNat = nI r_53.toInt.toNat ∧ r_61.toInt.toNat < P_ := by
            obtain ⟨q1, b1, b2, b3⟩ := hco r_53.toInt.toNat (by omega) (by rw [← e61, n61]; exact kt_nIm1 (by omega))
            rw [← e61, n61] at b2
            have e3 := kt_nIinj (by omega) (by omega) b2
            rw [e3]
            exact ⟨b3, b1⟩
          have hF61 : ((upd ff p1.toNatClampNeg p2) r_61.toNatClampNeg).toInt = r_53.toInt := by rw [c61, hF61_, kt_nI (by omega)]; omega
          refine lv_aload_n hx hb dX6_findVictims_75 rfl (lv_at hl 4 rfl) ?_
          refine va_get (D := D) (ci := 6) (C := RX6) (T := TX6) (N := 9) hx hb hts iw_X6_findVictims_X6 hown hK hP 0 rfl rfl 3 (by decide) (hts (.fieldLink RX6 22 "KingTable$Rules" "sides" "[I") (kt_wp_X6_findVictims__X6_findVictims_r1 kt_wm3)) (fun _ h9 => h9) rfl dX6_findVictims_76 ?_
          refine lv_iload hx hb dX6_findVictims_79 (lv_at hl 0 rfl) ?_
          have hi_2 : vp_in r_61 40 := by exact kt_in (by omega) (by omega)
          refine va_iald hx hb hK hP 9 0 rfl rfl hi_2 dX6_findVictims_81 ?_
          refine lv_topi (fun a_81 ea_81 => ?_)
          have ra_81 := hrs.get hi_2
          rw [← ea_81] at ra_81
          refine lv_aload_n hx hb dX6_findVictims_82 rfl (lv_at hl 4 rfl) ?_
          refine va_get (D := D) (ci := 6) (C := RX6) (T := TX6) (N := 9) hx hb hts iw_X6_findVictims_X6 hown hK hP 0 rfl rfl 3 (by decide) (hts (.fieldLink RX6 22 "KingTable$Rules" "sides" "[I") (kt_wp_X6_findVictims__X6_findVictims_r1 kt_wm3)) (fun _ h9 => h9) rfl dX6_findVictims_83 ?_
          refine lv_iload_n hx hb dX6_findVictims_86 rfl (lv_at hl 6 rfl) ?_
          have hi_3 : vp_in p1 40 := by exact kt_in (by omega) (by omega)
          refine va_iald hx hb hK hP 9 0 rfl rfl hi_3 dX6_findVictims_87 ?_
          refine lv_topi (fun a_87 ea_87 => ?_)
          have ra_87 := hrs.get hi_3
          rw [← ea_87] at ra_87
          have e81 : a_81 = fs r_61.toInt.toNat := ea_81
          have e87 : a_87 = fs p1.toInt.toNat := ea_87
          have hs81 := (hsd_ r_61.toInt.toNat hq61).1
          have hs87 : a_87.toInt = kt_side (fk p1.toNatClampNeg) := by rw [e87]; exact (hsd_ p1.toInt.toNat (by omega)).1
          rw [← e81] at hs81
          refine lv_icmp_eq (tgt := 109) hx hb dX6_findVictims_88 (by decide) (fun c_88 => ?_) (fun c_88 => ?_)
          · have d_88 := c_88
            simp only [kt_lt, kt_le, kt_eq, kt_c0, kt_c1, kt_c2, kt_c3, kt_c4, kt_c8, kt_c9, kt_cm1, kt_c81, kt_c40, kt_c7, kt_c5, kt_c6, kt_c512, kt_c10, kt_c10000] at d_88
            exact j_109 (g, v) (by show kt_r g 4 0 39 ∧ (0 ≤ v.toInt ∧ v.toInt ≤ (k : Int) + 1) ∧ kt_VL g v.toInt.toNat (fun j => ∃ b : Nat, b < k + 1 ∧ kt_vic (kt_plc fh (ff p1.toNatClampNeg) p1 p2) fr fk lt lh w_ L_ p1.toNatClampNeg p2.toInt b j); first
                    | exact ⟨hrv, by omega, hVL.iff (fun j hj => ⟨fun ⟨b, hb, hv⟩ => ⟨b, by omega, hv⟩, fun ⟨b, hb, hv⟩ => ⟨b, Nat.lt_of_le_of_ne (by omega) (fun e => by rw [e] at hv; obtain ⟨h1, h2⟩ := hV j hj hv; have h3 := hq2.f c_72; rw [h1, kt_nI (by omega)] at h3; omega), hv⟩⟩)⟩
                    | exact ⟨hrv, by omega, hVL.iff (fun j hj => ⟨fun ⟨b, hb, hv⟩ => ⟨b, by omega, hv⟩, fun ⟨b, hb, hv⟩ => ⟨b, Nat.lt_of_le_of_ne (by omega) (fun e => by rw [e] at hv; obtain ⟨h1, h2⟩ := hV j hj hv; have h4 := kt_nIinj (by omega) (by omega) (n61.symm.trans h1); rw [h4] at hs81; exact hv.2.2.1 (by have h5 := congrArg Int32.toInt c_88; omega)), hv⟩⟩)⟩
                    | exact ⟨hrv, by omega, hVL.iff (fun j hj => ⟨fun ⟨b, hb, hv⟩ => ⟨b, by omega, hv⟩, fun ⟨b, hb, hv⟩ => ⟨b, Nat.lt_of_le_of_ne (by omega) (fun e => by rw [e] at hv; obtain ⟨h1, h2⟩ := hV j hj hv; have h4 := kt_nIinj (by omega) (by omega) (n61.symm.trans h1); have h5 := hw_97.f c_100; rw [c61, h4] at h5; exact h5 hv.2.2.2), hv⟩⟩)⟩
                    | exact ⟨hrv, by omega, by rw [show vc2_106.toInt.toNat = v.toInt.toNat + 1 by omega]; exact (hVL.add (by omega) (by omega) hnew (by rw [← n61]; exact hins)).iff (fun j hj => ⟨fun h => h.elim (fun ⟨b, hb, hv⟩ => ⟨b, by omega, hv⟩) (fun e => ⟨k, by omega, by rw [e]; exact hyes⟩), fun ⟨b, hb, hv⟩ => if e : b = k then (by rw [e] at hv; obtain ⟨h1, h2⟩ := hV j hj hv; exact Or.inr (kt_nIinj (by omega) (by omega) (n61.symm.trans h1)).symm) else Or.inl ⟨b, by omega, hv⟩⟩)⟩) H _ hP hD hS ls (lv_sub hl [0, 1, 2, 3, 4, 5, 6, 7] rfl)
          · have d_88 := c_88
            simp only [kt_lt, kt_le, kt_eq, kt_c0, kt_c1, kt_c2, kt_c3, kt_c4, kt_c8, kt_c9, kt_cm1, kt_c81, kt_c40, kt_c7, kt_c5, kt_c6, kt_c512, kt_c10, kt_c10000] at d_88
            refine lv_aload_n hx hb dX6_findVictims_91 rfl (lv_at hl 4 rfl) ?_
            refine lv_aload_n hx hb dX6_findVictims_92 rfl (lv_at hl 5 rfl) ?_
            refine lv_iload hx hb dX6_findVictims_93 (lv_at hl 0 rfl) ?_
            refine lv_iload hx hb dX6_findVictims_95 (lv_at hl 2 rfl) ?_
            refine kt_pi (wc := [(ru, .inr (6, [.ref la, .ref gr, .ref rk, .ref rs, .ref rt, .int tt, .int kg, .ref rv, .int v])), (la, .inr (1, [.int lg, .int lh, .int lt, .int lr, .int lc])), (gr, .inr (0, [.ref gt, .ref gg, .ref gn, .int gs, .int gm])), (gt, .inl (cI, 81, .inl tg)), (gn, .inl (cI, 324, .inl nb)), (nw, .inr (8, [.ref sf, .ref sh, .int tu])), (sf, .inl (cI, 40, .inl ff2_34)), (sh, .inl (cI, 81, .inl fh2_34)), (rk, .inl (cI, 40, .inl ck)), (rs, .inl (cI, 40, .inl fs)), (rt, .inl (cZ, 40, .inl ft))]) [0, 1, 2, 3, 4, 5, 6, 7, 8, 9, 10] hP hD hS hA rfl (by decide) (fun hPc hDc => va_runV (As := [.ref nw, .int r_61, .int (nI k)]) (rest := []) ⟨hx, hb, hml, hown, hts⟩ (c_X6_isCaughtE l D cI cZ cB H.size ru la gr rk rs rt rv tt kg v lg lh lt lr lc gt gg gn gs gm tg nb nw sf sh tu ff2_34 fh2_34 fk fs ft w_ L_ P_ gl fr ck r_61 (nI k) hgs hgt hnb htt hff hfh hrk hrs hrt hrx0 (by rw [e34]; exact hmv.1) (by rw [g34]; exact hfo) (by omega) (by omega) (by rw [e34]; omega)) (cwV 3 hts gX6_findVictims_X6_isCaught rfl rfl rfl (by decide +kernel) ⟨Nat.le_of_ble_eq_true rfl, Nat.le_of_ble_eq_true rfl⟩) (kt_preV hN hK hPc hDc 0 (ci := 6) (q := (RX6, TX6, 9)) rfl rfl) rfl rfl hl.1 rfl (lv_room (Nat.le_of_ble_eq_true rfl)) dX6_findVictims_97 ⟨Nat.le_of_ble_eq_true rfl, Nat.le_of_ble_eq_true rfl⟩) (fun r_97 _ H locs hw_97 hP hS => ?_)
            rw [e34, g34, hF61, h53, hk0] at hw_97
            refine lv_if_eq (tgt := 109) hx hb dX6_findVictims_100 (by decide) (fun c_100 => ?_) (fun c_100 => ?_)
            · have d_100 := c_100
              simp only [kt_lt, kt_le, kt_eq, kt_c0, kt_c1, kt_c2, kt_c3, kt_c4, kt_c8, kt_c9, kt_cm1, kt_c81, kt_c40, kt_c7, kt_c5, kt_c6, kt_c512, kt_c10, kt_c10000] at d_100
              exact j_109 (g, v) (by show kt_r g 4 0 39 ∧ (0 ≤ v.toInt ∧ v.toInt ≤ (k : Int) + 1) ∧ kt_VL g v.toInt.toNat (fun j => ∃ b : Nat, b < k + 1 ∧ kt_vic (kt_plc fh (ff p1.toNatClampNeg) p1 p2) fr fk lt lh w_ L_ p1.toNatClampNeg p2.toInt b j); first
                      | exact ⟨hrv, by omega, hVL.iff (fun j hj => ⟨fun ⟨b, hb, hv⟩ => ⟨b, by omega, hv⟩, fun ⟨b, hb, hv⟩ => ⟨b, Nat.lt_of_le_of_ne (by omega) (fun e => by rw [e] at hv; obtain ⟨h1, h2⟩ := hV j hj hv; have h3 := hq2.f c_72; rw [h1, kt_nI (by omega)] at h3; omega), hv⟩⟩)⟩
                      | exact ⟨hrv, by omega, hVL.iff (fun j hj => ⟨fun ⟨b, hb, hv⟩ => ⟨b, by omega, hv⟩, fun ⟨b, hb, hv⟩ => ⟨b, Nat.lt_of_le_of_ne (by omega) (fun e => by rw [e] at hv; obtain ⟨h1, h2⟩ := hV j hj hv; have h4 := kt_nIinj (by omega) (by omega) (n61.symm.trans h1); rw [h4] at hs81; exact hv.2.2.1 (by have h5 := congrArg Int32.toInt c_88; omega)), hv⟩⟩)⟩
                      | exact ⟨hrv, by omega, hVL.iff (fun j hj => ⟨fun ⟨b, hb, hv⟩ => ⟨b, by omega, hv⟩, fun ⟨b, hb, hv⟩ => ⟨b, Nat.lt_of_le_of_ne (by omega) (fun e => by rw [e] at hv; obtain ⟨h1, h2⟩ := hV j hj hv; have h4 := kt_nIinj (by omega) (by omega) (n61.symm.trans h1); have h5 := hw_97.f c_100; rw [c61, h4] at h5; exact h5 hv.2.2.2), hv⟩⟩)⟩
                      | exact ⟨hrv, by omega, by rw [show vc2_106.toInt.toNat = v.toInt.toNat + 1 by omega]; exact (hVL.add (by omega) (by omega) hnew (by rw [← n61]; exact hins)).iff (fun j hj => ⟨fun h => h.elim (fun ⟨b, hb, hv⟩ => ⟨b, by omega, hv⟩) (fun e => ⟨k, by omega, by rw [e]; exact hyes⟩), fun ⟨b, hb, hv⟩ => if e : b = k then (by rw [e] at hv; obtain ⟨h1, h2⟩ := hV j hj hv; exact Or.inr (kt_nIinj (by omega) (by omega) (n61.symm.trans h1)).symm) else Or.inl ⟨b, by omega, hv⟩⟩)⟩) H _ hP hD hS ls (lv_sub hl [0, 1, 2, 3, 4, 5, 6, 7] rfl)
            · have d_100 := c_100
              simp only [kt_lt, kt_le, kt_eq, kt_c0, kt_c1, kt_c2, kt_c3, kt_c4, kt_c8, kt_c9, kt_cm1, kt_c81, kt_c40, kt_c7, kt_c5, kt_c6, kt_c512, kt_c10, kt_c10000] at d_100
              have hyes : kt_vic (kt_plc fh (ff p1.toNatClampNeg) p1 p2) fr fk lt lh w_ L_ p1.toNatClampNeg p2.toInt k r_61.toInt.toNat := ⟨by rw [← h53]; omega, by rw [← h53, ← n61]; exact e61.symm, fun h => c_88 ((kt_eq _ _).mpr (by rw [hs81, hs87]; exact h)), hw_97.t c_100⟩
              have hnew : ¬ ∃ b : Nat, b < k ∧ kt_vic (kt_plc fh (ff p1.toNatClampNeg) p1 p2) fr fk lt lh w_ L_ p1.toNatClampNeg p2.toInt b r_61.toInt.toNat := fun ⟨b, hb, hv⟩ => absurd (kt_vic_one hco hP40 hw_ hL_ hp2 (show b < 4 by omega) (show k < 4 by omega) hv hq61 (by rw [hF61_, h53]) (by rw [← h53]; omega)) (by omega)
              refine lv_aload_n hx hb dX6_findVictims_103 rfl (lv_at hl 4 rfl) ?_
              refine lv_iload hx hb dX6_findVictims_104 (lv_at hl 0 rfl) ?_
              refine kt_bv (wc := [(ru, .inr (6, [.ref la, .ref gr, .ref rk, .ref rs, .ref rt, .int tt, .int kg, .ref rv, .int v])), (rv, .inl (cI, 4, .inl g))]) (wr := [(la, .inr (1, [.int lg, .int lh, .int lt, .int lr, .int lc])), (gr, .inr (0, [.ref gt, .ref gg, .ref gn, .int gs, .int gm])), (gt, .inl (cI, 81, .inl tg)), (gn, .inl (cI, 324, .inl nb)), (nw, .inr (8, [.ref sf, .ref sh, .int tu])), (sf, .inl (cI, 40, .inl ff2_34)), (sh, .inl (cI, 81, .inl fh2_34)), (rk, .inl (cI, 40, .inl ck)), (rs, .inl (cI, 40, .inl fs)), (rt, .inl (cZ, 40, .inl ft))]) [0, 11] [1, 2, 3, 4, 5, 6, 7, 8, 9, 10] hP hD hS hA rfl rfl (by decide) (by decide) (by decide) (fun hPc hDc => va_runV (As := [.int r_61]) (rest := []) ⟨hx, hb, hml, hown, hts⟩ (c_X6_addVictimE l D cI cZ cB H.size ru la gr rk rs rt rv tt kg v g r_61 hrv (by omega) (by omega)) (cwV 1 hts gX6_findVictims_X6_addVictim rfl rfl rfl (by decide +kernel) ⟨Nat.le_of_ble_eq_true rfl, Nat.le_of_ble_eq_true rfl⟩) (kt_preV hN hK hPc hDc 0 (ci := 6) (q := (RX6, TX6, 9)) rfl rfl) rfl rfl hl.1 rfl (lv_room (Nat.le_of_ble_eq_true rfl)) dX6_findVictims_106 ⟨Nat.le_of_ble_eq_true rfl, Nat.le_of_ble_eq_true rfl⟩) (fun u_ H locs hw_106 hP hD hS => ?_)
              obtain ⟨fv2_106, vc2_106⟩ := u_
              have hP : va_P D vwCl [(ru, .inr (6, [.ref la, .ref gr, .ref rk, .ref rs, .ref rt, .int tt, .int kg, .ref rv, .int vc2_106])), (la, .inr (1, [.int lg, .int lh, .int lt, .int lr, .int lc])), (gr, .inr (0, [.ref gt, .ref gg, .ref gn, .int gs, .int gm])), (gt, .inl (cI, 81, .inl tg)), (gn, .inl (cI, 324, .inl nb)), (nw, .inr (8, [.ref sf, .ref sh, .int tu])), (sf, .inl (cI, 40, .inl ff2_34)), (sh, .inl (cI, 81, .inl fh2_34)), (rk, .inl (cI, 40, .inl ck)), (rs, .inl (cI, 40, .inl fs)), (rt, .inl (cZ, 40, .inl ft)), (rv, .inl (cI, 4, .inl fv2_106))] H := hP.sub [10, 0, 1, 2, 3, 4, 5, 6, 7, 8, 9, 11] rfl
              have hD : va_D A [(ru, .inr (6, [.ref la, .ref gr, .ref rk, .ref rs, .ref rt, .int tt, .int kg, .ref rv, .int vc2_106])), (la, .inr (1, [.int lg, .int lh, .int lt, .int lr, .int lc])), (gr, .inr (0, [.ref gt, .ref gg, .ref gn, .int gs, .int gm])), (gt, .inl (cI, 81, .inl tg)), (gn, .inl (cI, 324, .inl nb)), (nw, .inr (8, [.ref sf, .ref sh, .int tu])), (sf, .inl (cI, 40, .inl ff2_34)), (sh, .inl (cI, 81, .inl fh2_34)), (rk, .inl (cI, 40, .inl ck)), (rs, .inl (cI, 40, .inl fs)), (rt, .inl (cZ, 40, .inl ft)), (rv, .inl (cI, 4, .inl fv2_106))] := hD.sub [10, 0, 1, 2, 3, 4, 5, 6, 7, 8, 9, 11] (by decide) rfl
              try dsimp only at hw_106
              obtain ⟨⟨hrv, hvc⟩, hv1, hins⟩ := hw_106
              exact j_109 (fv2_106, vc2_106) (by show kt_r fv2_106 4 0 39 ∧ (0 ≤ vc2_106.toInt ∧ vc2_106.toInt ≤ (k : Int) + 1) ∧ kt_VL fv2_106 vc2_106.toInt.toNat (fun j => ∃ b : Nat, b < k + 1 ∧ kt_vic (kt_plc fh (ff p1.toNatClampNeg) p1 p2) fr fk lt lh w_ L_ p1.toNatClampNeg p2.toInt b j); first
                      | exact ⟨hrv, by omega, hVL.iff (fun j hj => ⟨fun ⟨b, hb, hv⟩ => ⟨b, by omega, hv⟩, fun ⟨b, hb, hv⟩ => ⟨b, Nat.lt_of_le_of_ne (by omega) (fun e => by rw [e] at hv; obtain ⟨h1, h2⟩ := hV j hj hv; have h3 := hq2.f c_72; rw [h1, kt_nI (by omega)] at h3; omega), hv⟩⟩)⟩
                      | exact ⟨hrv, by omega, hVL.iff (fun j hj => ⟨fun ⟨b, hb, hv⟩ => ⟨b, by omega, hv⟩, fun ⟨b, hb, hv⟩ => ⟨b, Nat.lt_of_le_of_ne (by omega) (fun e => by rw [e] at hv; obtain ⟨h1, h2⟩ := hV j hj hv; have h4 := kt_nIinj (by omega) (by omega) (n61.symm.trans h1); rw [h4] at hs81; exact hv.2.2.1 (by have h5 := congrArg Int32.toInt c_88; omega)), hv⟩⟩)⟩
                      | exact ⟨hrv, by omega, hVL.iff (fun j hj => ⟨fun ⟨b, hb, hv⟩ => ⟨b, by omega, hv⟩, fun ⟨b, hb, hv⟩ => ⟨b, Nat.lt_of_le_of_ne (by omega) (fun e => by rw [e] at hv; obtain ⟨h1, h2⟩ := hV j hj hv; have h4 := kt_nIinj (by omega) (by omega) (n61.symm.trans h1); have h5 := hw_97.f c_100; rw [c61, h4] at h5; exact h5 hv.2.2.2), hv⟩⟩)⟩
                      | exact ⟨hrv, by omega, by rw [show vc2_106.toInt.toNat = v.toInt.toNat + 1 by omega]; exact (hVL.add (by omega) (by omega) hnew (by rw [← n61]; exact hins)).iff (fun j hj => ⟨fun h => h.elim (fun ⟨b, hb, hv⟩ => ⟨b, by omega, hv⟩) (fun e => ⟨k, by omega, by rw [e]; exact hyes⟩), fun ⟨b, hb, hv⟩ => if e : b = k then (by rw [e] at hv; obtain ⟨h1, h2⟩ := hV j hj hv; exact Or.inr (kt_nIinj (by omega) (by omega) (n61.symm.trans h1)).symm) else Or.inl ⟨b, by omega, hv⟩⟩)⟩) H _ hP hD hS ls (lv_sub hl [0, 1, 2, 3, 4, 5, 6, 7] rfl)
    · have d_19 := c_19
      simp only [kt_lt, kt_le, kt_eq, kt_c0, kt_c1, kt_c2, kt_c3, kt_c4, kt_c8, kt_c9, kt_cm1, kt_c81, kt_c40, kt_c7, kt_c5, kt_c6, kt_c512, kt_c10, kt_c10000] at d_19
      refine lv_iconst (v := 0) hx hb dX6_findVictims_22 (by decide) ?_
      exact kt_ri (fv, 0) hx hb hr hlk hS dX6_findVictims_23 hP hD (by show (0 : Int32) = (0 : Int32) ∧ kt_VL fv (0 : Int32).toInt.toNat (fun j => kt_tks lt (fk p1.toNatClampNeg) ∧ ∃ b : Nat, b < 4 ∧ kt_vic (kt_plc fh (ff p1.toNatClampNeg) p1 p2) fr fk lt lh w_ L_ p1.toNatClampNeg p2.toInt b j) ∧ kt_r fv 4 0 39 ∧ 0 ≤ (0 : Int32).toInt ∧ (0 : Int32).toInt ≤ 4; first
           | exact ⟨rfl, kt_VL.nil _ (fun j hj h => (ht_.f c_19) h.1), hrv, by decide⟩
           | exact ⟨rfl, by rw [show (4 : Nat) = k by omega]; exact hVL.iff (fun j hj => ⟨fun h => ⟨htk, h⟩, fun h => h.2⟩), hrv, by omega⟩
           | (exfalso; have := hq1.f c_10; omega))
