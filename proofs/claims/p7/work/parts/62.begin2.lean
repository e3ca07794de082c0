set_option maxHeartbeats 4000000 in
set_option maxRecDepth 100000 in
theorem c_X11_isGoalE (l : Launch) (D : va_G) (cI cZ cB : ClassId) (sz : Nat) (mx : Nat) (ms : Nat) (mk : Nat) (ma : Nat) (mo : Nat) (mg : Nat) (mm : Nat) (mt : Nat) (mn : Nat) (me : Nat) (mq : Nat) (mwo : Nat) (md : Nat) (mf : Nat) (mr : Nat) (ml : Int32) (mw : Int32) (mgl : Int32) (mhd : Int32) (mre : Int32) (mag : Int32) (mkt : Int32) (mho : Int32) (mpc : Int32) (msd : Int32) (mki : Int32) (mdn : Int32) (mun : Int32) (mtk : Int32) (msv : Int32) (fr : Nat → Int32) (p1 : Int32) (hml_ : 2 ≤ ml.toInt ∧ ml.toInt ≤ 9) (hmw : 2 ≤ mw.toInt ∧ mw.toInt ≤ 9) (hp1 : 0 ≤ p1.toInt ∧ p1.toInt < ml.toInt * mw.toInt) : kt_Mi l yX11_isGoal wsX11_isGoal { frames := 1, cells := 0, slots := 0, locals := 20 } D (kt_ty cI cZ cB) [.ref mx, .int p1] sz [(mx, .inr (11, [.int ml, .int mw, .ref ms, .int mgl, .int mhd, .int mre, .int mag, .int mkt, .int mho, .int mpc, .int msd, .int mki, .ref mk, .ref ma, .ref mo, .ref mg, .ref mm, .ref mt, .int mdn, .int mun, .ref mn, .int mtk, .ref me, .ref mq, .int msv, .ref mwo, .ref md, .ref mf, .ref mr])), (mg, .inl (cI, 81, .inl fr))] (fun (r : Int32) (u : Unit) => kt_B r (kt_goR mgl mw.toInt ml.toInt (fr p1.toNatClampNeg) p1.toInt)) (fun (u : Unit) => [(mx, .inr (11, [.int ml, .int mw, .ref ms, .int mgl, .int mhd, .int mre, .int mag, .int mkt, .int mho, .int mpc, .int msd, .int mki, .ref mk, .ref ma, .ref mo, .ref mg, .ref mm, .ref mt, .int mdn, .int mun, .ref mn, .int mtk, .ref me, .ref mq, .int msv, .ref mwo, .ref md, .ref mf, .ref mr])), (mg, .inl (cI, 81, .inl fr))]) 0 0 := by
  refine kt_Mi.of (cc := cX11_isGoal) (maxL := 2) (ret := some .boolean) (by decide) rfl (Nat.le_of_ble_eq_true rfl) ?_
  intro p e s m below meth c A ls H hAt hP hD hS hl
  obtain ⟨hx, hb, hr, hml, hown, hts, hN, hK, hlk, hnm, hA⟩ := hAt
  have hl : lv_has ls 2 [(0, .ref mx), (1, .int p1)] := hl
  have hown : s.vm.findClass RX11 = some m.cls := hown
  have hsb := kt_mulb hml_ hmw
  have hE := kt_edge_of hmw hp1
  refine lv_aload_n hx hb dX11_isGoal_0 rfl (lv_at hl 0 rfl) ?_
  refine va_get (D := D) (ci := 11) (C := RX11) (T := TX11) (N := 29) hx hb hts iw_X11_isGoal_X11 hown hK hP 0 rfl rfl 3 (by decide) (hts (.fieldLink RX11 79 "KingTableModel" "goal" "I") (List.mem_cons_of_mem _ (List.mem_append_left _ (List.Mem.head _)))) (fun _ h9 => h9) rfl dX11_isGoal_1 ?_
  refine lv_if_ne (tgt := 24) hx hb dX11_isGoal_4 (by decide) (fun c_4 => ?_) (fun c_4 => ?_)
  · have d_4 := c_4
    simp only [kt_lt, kt_le, kt_eq, kt_c0, kt_c1, kt_c2, kt_c3, kt_c4, kt_c8, kt_c9, kt_cm1, kt_c81, kt_c40, kt_c7, kt_c5, kt_c6, kt_c512, kt_c10, kt_c10000] at d_4
    refine lv_iload_n hx hb dX11_isGoal_24 rfl (lv_at hl 1 rfl) ?_
    refine lv_aload_n hx hb dX11_isGoal_25 rfl (lv_at hl 0 rfl) ?_
    refine va_get (D := D) (ci := 11) (C := RX11) (T := TX11) (N := 29) hx hb hts iw_X11_isGoal_X11 hown hK hP 0 rfl rfl 1 (by decide) (hts (.fieldLink RX11 13 "KingTableModel" "wide" "I") (List.mem_cons_of_mem _ (List.mem_append_left _ (List.mem_cons_of_mem _ (List.mem_cons_of_mem _ (List.Mem.head _)))))) (fun _ h9 => h9) rfl dX11_isGoal_26 ?_
    refine lv_icmp_lt (tgt := 69) hx hb dX11_isGoal_29 (by decide) (fun c_29 => ?_) (fun c_29 => ?_)
    · have d_29 := c_29
      simp only [kt_lt, kt_le, kt_eq, kt_c0, kt_c1, kt_c2, kt_c3, kt_c4, kt_c8, kt_c9, kt_cm1, kt_c81, kt_c40, kt_c7, kt_c5, kt_c6, kt_c512, kt_c10, kt_c10000] at d_29
      refine lv_iconst (v := 1) hx hb dX11_isGoal_69 (by decide) ?_
      refine lv_goto (tgt := 74) hx hb dX11_isGoal_70 (by decide) ?_
      exact kt_rz () hx hb hr hlk hS dX11_isGoal_74 hP hD (by show kt_B (1 : Int32) (kt_goR mgl mw.toInt ml.toInt (fr p1.toNatClampNeg) p1.toInt); first
           | exact Or.inl ⟨rfl, Or.inl ⟨c_4, ea_12.symm.trans c_15⟩⟩
           | exact Or.inr ⟨rfl, fun h => h.elim (fun h1 => c_15 (ea_12.trans h1.2)) (fun h2 => h2.1 c_4)⟩
           | exact Or.inl ⟨rfl, Or.inr ⟨c_4, by unfold kt_edge; omega⟩⟩
           | exact Or.inr ⟨rfl, fun h => h.elim (fun h1 => c_4 h1.1) (fun h2 => by have h3 := h2.2; unfold kt_edge at h3; omega)⟩) rfl
    · have d_29 := c_29
      simp only [kt_lt, kt_le, kt_eq, kt_c0, kt_c1, kt_c2, kt_c3, kt_c4, kt_c8, kt_c9, kt_cm1, kt_c81, kt_c40, kt_c7, kt_c5, kt_c6, kt_c512, kt_c10, kt_c10000] at d_29
      refine lv_iload_n hx hb dX11_isGoal_32 rfl (lv_at hl 1 rfl) ?_
      refine lv_aload_n hx hb dX11_isGoal_33 rfl (lv_at hl 0 rfl) ?_
      refine kt_pi (wc := [(mx, .inr (11, [.int ml, .int mw, .ref ms, .int mgl, .int mhd, .int mre, .int mag, .int mkt, .int mho, .int mpc, .int msd, .int mki, .ref mk, .ref ma, .ref mo, .ref mg, .ref mm, .ref mt, .int mdn, .int mun, .ref mn, .int mtk, .ref me, .ref mq, .int msv, .ref mwo, .ref md, .ref mf, .ref mr]))]) [0] hP hD hS hA rfl (by decide) (fun hPc hDc => va_runV (As := []) (rest := [.int p1]) ⟨hx, hb, hml, hown, hts⟩ (c_X11_fields l D cI cZ cB H.size mx ms mk ma mo mg mm mt mn me mq mwo md mf mr ml mw mgl mhd mre mag mkt mho mpc msd mki mdn mun mtk msv (by first | assumption | omega | rfl | decide) (by first | assumption | omega | rfl | decide)) (cwV 0 hts gX11_isGoal_X11_fields rfl rfl rfl (by decide +kernel) ⟨Nat.le_of_ble_eq_true rfl, Nat.le_of_ble_eq_true rfl⟩) (kt_preV hN hK hPc hDc 0 (ci := 11) (q := (RX11, TX11, 29)) rfl rfl) rfl rfl hl.1 rfl (lv_room (Nat.le_of_ble_eq_true rfl)) dX11_isGoal_34 ⟨Nat.le_of_ble_eq_true rfl, Nat.le_of_ble_eq_true rfl⟩) (fun r_34 _ H locs hw_34 hP hS => ?_)
      refine lv_aload_n hx hb dX11_isGoal_37 rfl (lv_at hl 0 rfl) ?_
      refine va_get (D := D) (ci := 11) (C := RX11) (T := TX11) (N := 29) hx hb hts iw_X11_isGoal_X11 hown hK hP 0 rfl rfl 1 (by decide) (hts (.fieldLink RX11 13 "KingTableModel" "wide" "I") (List.mem_cons_of_mem _ (List.mem_append_left _ (List.mem_cons_of_mem _ (List.mem_cons_of_mem _ (List.Mem.head _)))))) (fun _ h9 => h9) rfl dX11_isGoal_38 ?_
      refine lv_isub hx hb dX11_isGoal_41 ?_
      refine lv_topi (fun t_41 et_41 => ?_)
      first | have hk_41 := kt_subx et_41 (by first | omega | (simp only [kt_c0, kt_c1, kt_c2, kt_c3, kt_c4, kt_c8, kt_c9, kt_cm1, kt_c81, kt_c40, kt_c7, kt_c5, kt_c6, kt_c512, kt_c10, kt_c10000]; omega)) (by first | omega | (simp only [kt_c0, kt_c1, kt_c2, kt_c3, kt_c4, kt_c8, kt_c9, kt_cm1, kt_c81, kt_c40, kt_c7, kt_c5, kt_c6, kt_c512, kt_c10, kt_c10000]; omega)) | obtain ⟨k_41, hk_41, hm_41, hM_41⟩ := kt_subk et_41
      refine lv_icmp_ge (tgt := 69) hx hb dX11_isGoal_42 (by decide) (fun c_42 => ?_) (fun c_42 => ?_)
      · have d_42 := c_42
        simp only [kt_lt, kt_le, kt_eq, kt_c0, kt_c1, kt_c2, kt_c3, kt_c4, kt_c8, kt_c9, kt_cm1, kt_c81, kt_c40, kt_c7, kt_c5, kt_c6, kt_c512, kt_c10, kt_c10000] at d_42
        refine lv_iconst (v := 1) hx hb dX11_isGoal_69 (by decide) ?_
        refine lv_goto (tgt := 74) hx hb dX11_isGoal_70 (by decide) ?_
        exact kt_rz () hx hb hr hlk hS dX11_isGoal_74 hP hD (by show kt_B (1 : Int32) (kt_goR mgl mw.toInt ml.toInt (fr p1.toNatClampNeg) p1.toInt); first
             | exact Or.inl ⟨rfl, Or.inl ⟨c_4, ea_12.symm.trans c_15⟩⟩
             | exact Or.inr ⟨rfl, fun h => h.elim (fun h1 => c_15 (ea_12.trans h1.2)) (fun h2 => h2.1 c_4)⟩
             | exact Or.inl ⟨rfl, Or.inr ⟨c_4, by unfold kt_edge; omega⟩⟩
             | exact Or.inr ⟨rfl, fun h => h.elim (fun h1 => c_4 h1.1) (fun h2 => by have h3 := h2.2; unfold kt_edge at h3; omega)⟩) rfl
      · have d_42 := c_42
        simp only [kt_lt, kt_le, kt_eq, kt_c0, kt_c1, kt_c2, kt_c3, kt_c4, kt_c8, kt_c9, kt_cm1, kt_c81, kt_c40, kt_c7, kt_c5, kt_c6, kt_c512, kt_c10, kt_c10000] at d_42
        refine lv_iload_n hx hb dX11_isGoal_45 rfl (lv_at hl 1 rfl) ?_
        refine lv_aload_n hx hb dX11_isGoal_46 rfl (lv_at hl 0 rfl) ?_
        refine va_get (D := D) (ci := 11) (C := RX11) (T := TX11) (N := 29) hx hb hts iw_X11_isGoal_X11 hown hK hP 0 rfl rfl 1 (by decide) (hts (.fieldLink RX11 13 "KingTableModel" "wide" "I") (List.mem_cons_of_mem _ (List.mem_append_left _ (List.mem_cons_of_mem _ (List.mem_cons_of_mem _ (List.Mem.head _)))))) (fun _ h9 => h9) rfl dX11_isGoal_47 ?_
        refine lv_irem hx hb dX11_isGoal_50 (by intro h; rw [h] at hmw; exact absurd hmw (by decide)) ?_
        refine lv_topi (fun t_50 et_50 => ?_)
        have hk_50 := kt_remk et_50 (by omega) (by omega)
        refine lv_if_eq (tgt := 69) hx hb dX11_isGoal_51 (by decide) (fun c_51 => ?_) (fun c_51 => ?_)
        · have d_51 := c_51
          simp only [kt_lt, kt_le, kt_eq, kt_c0, kt_c1, kt_c2, kt_c3, kt_c4, kt_c8, kt_c9, kt_cm1, kt_c81, kt_c40, kt_c7, kt_c5, kt_c6, kt_c512, kt_c10, kt_c10000] at d_51
          refine lv_iconst (v := 1) hx hb dX11_isGoal_69 (by decide) ?_
          refine lv_goto (tgt := 74) hx hb dX11_isGoal_70 (by decide) ?_
          exact kt_rz () hx hb hr hlk hS dX11_isGoal_74 hP hD (by show kt_B (1 : Int32) (kt_goR mgl mw.toInt ml.toInt (fr p1.toNatClampNeg) p1.toInt); first
               | exact Or.inl ⟨rfl, Or.inl ⟨c_4, ea_12.symm.trans c_15⟩⟩
               | exact Or.inr ⟨rfl, fun h => h.elim (fun h1 => c_15 (ea_12.trans h1.2)) (fun h2 => h2.1 c_4)⟩
               | exact Or.inl ⟨rfl, Or.inr ⟨c_4, by unfold kt_edge; omega⟩⟩
               | exact Or.inr ⟨rfl, fun h => h.elim (fun h1 => c_4 h1.1) (fun h2 => by have h3 := h2.2; unfold kt_edge at h3; omega)⟩) rfl
        · have d_51 := c_51
          simp only [kt_lt, kt_le, kt_eq, kt_c0, kt_c1, kt_c2, kt_c3, kt_c4, kt_c8, kt_c9, kt_cm1, kt_c81, kt_c40, kt_c7, kt_c5, kt_c6, kt_c512, kt_c10, kt_c10000] at d_51
          refine lv_iload_n hx hb dX11_isGoal_54 rfl (lv_at hl 1 rfl) ?_
          refine lv_aload_n hx hb dX11_isGoal_55 rfl (lv_at hl 0 rfl) ?_
          refine va_get (D := D) (ci := 11) (C := RX11) (T := TX11) (N := 29) hx hb hts iw_X11_isGoal_X11 hown hK hP 0 rfl rfl 1 (by decide) (hts (.fieldLink RX11 13 "KingTableModel" "wide" "I") (List.mem_cons_of_mem _ (List.mem_append_left _ (List.mem_cons_of_mem _ (List.mem_cons_of_mem _ (List.Mem.head _)))))) (fun _ h9 => h9) rfl dX11_isGoal_56 ?_
          refine lv_irem hx hb dX11_isGoal_59 (by intro h; rw [h] at hmw; exact absurd hmw (by decide)) ?_
          refine lv_topi (fun t_59 et_59 => ?_)
          have hk_59 := kt_remk et_59 (by omega) (by omega)
          refine lv_aload_n hx hb dX11_isGoal_60 rfl (lv_at hl 0 rfl) ?_
          refine va_get (D := D) (ci := 11) (C := RX11) (T := TX11) (N := 29) hx hb hts iw_X11_isGoal_X11 hown hK hP 0 rfl rfl 1 (by decide) (hts (.fieldLink RX11 13 "KingTableModel" "wide" "I") (List.mem_cons_of_mem _ (List.mem_append_left _ (List.mem_cons_of_mem _ (List.mem_cons_of_mem _ (List.Mem.head _)))))) (fun _ h9 => h9) rfl dX11_isGoal_61 ?_
          refine lv_iconst (v := 1) hx hb dX11_isGoal_64 (by decide) ?_
          refine lv_isub hx hb dX11_isGoal_65 ?_
          refine lv_topi (fun t_65 et_65 => ?_)
          first | have hk_65 := kt_subx et_65 (by first | omega | (simp only [kt_c0, kt_c1, kt_c2, kt_c3, kt_c4, kt_c8, kt_c9, kt_cm1, kt_c81, kt_c40, kt_c7, kt_c5, kt_c6, kt_c512, kt_c10, kt_c10000]; omega)) (by first | omega | (simp only [kt_c0, kt_c1, kt_c2, kt_c3, kt_c4, kt_c8, kt_c9, kt_cm1, kt_c81, kt_c40, kt_c7, kt_c5, kt_c6, kt_c512, kt_c10, kt_c10000]; omega)) | obtain ⟨k_65, hk_65, hm_65, hM_65⟩ := kt_subk et_65
          try simp only [kt_c0, kt_c1, kt_c2, kt_c3, kt_c4, kt_c8, kt_c9, kt_cm1, kt_c81, kt_c40, kt_c7, kt_c5, kt_c6, kt_c512, kt_c10, kt_c10000] at hk_65
          refine lv_icmp_ne (tgt := 73) hx hb dX11_isGoal_66 (by decide) (fun c_66 => ?_) (fun c_66 => ?_)
          · have d_66 := c_66
            simp only [kt_lt, kt_le, kt_eq, kt_c0, kt_c1, kt_c2, kt_c3, kt_c4, kt_c8, kt_c9, kt_cm1, kt_c81, kt_c40, kt_c7, kt_c5, kt_c6, kt_c512, kt_c10, kt_c10000] at d_66
            refine lv_iconst (v := 0) hx hb dX11_isGoal_73 (by decide) ?_
            exact kt_rz () hx hb hr hlk hS dX11_isGoal_74 hP hD (by show kt_B (0 : Int32) (kt_goR mgl mw.toInt ml.toInt (fr p1.toNatClampNeg) p1.toInt); first
                 | exact Or.inl ⟨rfl, Or.inl ⟨c_4, ea_12.symm.trans c_15⟩⟩
                 | exact Or.inr ⟨rfl, fun h => h.elim (fun h1 => c_15 (ea_12.trans h1.2)) (fun h2 => h2.1 c_4)⟩
                 | exact Or.inl ⟨rfl, Or.inr ⟨c_4, by unfold kt_edge; omega⟩⟩
                 | exact Or.inr ⟨rfl, fun h => h.elim (fun h1 => c_4 h1.1) (fun h2 => by have h3 := h2.2; unfold kt_edge at h3; omega)⟩) rfl
          · have d_66 := c_66
            simp only [kt_lt, kt_le, kt_eq, kt_c0, kt_c1, kt_c2, kt_c3, kt_c4, kt_c8, kt_c9, kt_cm1, kt_c81, kt_c40, kt_c7, kt_c5, kt_c6, kt_c512, kt_c10, kt_c10000] at d_66
            refine lv_iconst (v := 1) hx hb dX11_isGoal_69 (by decide) ?_
            refine lv_goto (tgt := 74) hx hb dX11_isGoal_70 (by decide) ?_
            exact kt_rz () hx hb hr hlk hS dX11_isGoal_74 hP hD (by show kt_B (1 : Int32) (kt_goR mgl mw.toInt ml.toInt (fr p1.toNatClampNeg) p1.toInt); first
                 | exact Or.inl ⟨rfl, Or.inl ⟨c_4, ea_12.symm.trans c_15⟩⟩
                 | exact Or.inr ⟨rfl, fun h => h.elim (fun h1 => c_15 (ea_12.trans h1.2)) (fun h2 => h2.1 c_4)⟩
                 | exact Or.inl ⟨rfl, Or.inr ⟨c_4, by unfold kt_edge; omega⟩⟩
                 | exact Or.inr ⟨rfl, fun h => h.elim (fun h1 => c_4 h1.1) (fun h2 => by have h3 := h2.2; unfold kt_edge at h3; omega)⟩) rfl
  · have d_4 := c_4
    simp only [kt_lt, kt_le, kt_eq, kt_c0, kt_c1, kt_c2, kt_c3, kt_c4, kt_c8, kt_c9, kt_cm1, kt_c81, kt_c40, kt_c7, kt_c5, kt_c6, kt_c512, kt_c10, kt_c10000] at d_4
    refine lv_aload_n hx hb dX11_isGoal_7 rfl (lv_at hl 0 rfl) ?_
    refine va_get (D := D) (ci := 11) (C := RX11) (T := TX11) (N := 29) hx hb hts iw_X11_isGoal_X11 hown hK hP 0 rfl rfl 15 (by decide) (hts (.fieldLink RX11 36 "KingTableModel" "ground" "[I") (List.mem_cons_of_mem _ (List.mem_append_left _ (List.mem_cons_of_mem _ (List.Mem.head _))))) (fun _ h9 => h9) rfl dX11_isGoal_8 ?_
    refine lv_iload_n hx hb dX11_isGoal_11 rfl (lv_at hl 1 rfl) ?_
    have hi_1 : vp_in p1 81 := by exact kt_in (by omega) (by omega)
    refine va_iald hx hb hK hP 1 0 rfl rfl hi_1 dX11_isGoal_12 ?_
    refine lv_topi (fun a_12 ea_12 => ?_)
    refine lv_bipush (v := 6) hx hb dX11_isGoal_13 (by decide) ?_
    refine lv_icmp_ne (tgt := 22) hx hb dX11_isGoal_15 (by decide) (fun c_15 => ?_) (fun c_15 => ?_)
    · have d_15 := c_15
      simp only [kt_lt, kt_le, kt_eq, kt_c0, kt_c1, kt_c2, kt_c3, kt_c4, kt_c8, kt_c9, kt_cm1, kt_c81, kt_c40, kt_c7, kt_c5, kt_c6, kt_c512, kt_c10, kt_c10000] at d_15
      refine lv_iconst (v := 0) hx hb dX11_isGoal_22 (by decide) ?_
      exact kt_rz () hx hb hr hlk hS dX11_isGoal_23 hP hD (by show kt_B (0 : Int32) (kt_goR mgl mw.toInt ml.toInt (fr p1.toNatClampNeg) p1.toInt); first
           | exact Or.inl ⟨rfl, Or.inl ⟨c_4, ea_12.symm.trans c_15⟩⟩
           | exact Or.inr ⟨rfl, fun h => h.elim (fun h1 => c_15 (ea_12.trans h1.2)) (fun h2 => h2.1 c_4)⟩
           | exact Or.inl ⟨rfl, Or.inr ⟨c_4, by unfold kt_edge; omega⟩⟩
           | exact Or.inr ⟨rfl, fun h => h.elim (fun h1 => c_4 h1.1) (fun h2 => by have h3 := h2.2; unfold kt_edge at h3; omega)⟩) rfl
    · have d_15 := c_15
      simp only [kt_lt, kt_le, kt_eq, kt_c0, kt_c1, kt_c2, kt_c3, kt_c4, kt_c8, kt_c9, kt_cm1, kt_c81, kt_c40, kt_c7, kt_c5, kt_c6, kt_c512, kt_c10, kt_c10000] at d_15
      refine lv_iconst (v := 1) hx hb dX11_isGoal_18 (by decide) ?_
      refine lv_goto (tgt := 23) hx hb dX11_isGoal_19 (by decide) ?_
      exact kt_rz () hx hb hr hlk hS dX11_isGoal_23 hP hD (by show kt_B (1 : Int32) (kt_goR mgl mw.toInt ml.toInt (fr p1.toNatClampNeg) p1.toInt); first
           | exact Or.inl ⟨rfl, Or.inl ⟨c_4, ea_12.symm.trans c_15⟩⟩
           | exact Or.inr ⟨rfl, fun h => h.elim (fun h1 => c_15 (ea_12.trans h1.2)) (fun h2 => h2.1 c_4)⟩
           | exact Or.inl ⟨rfl, Or.inr ⟨c_4, by unfold kt_edge; omega⟩⟩
           | exact Or.inr ⟨rfl, fun h => h.elim (fun h1 => c_4 h1.1) (fun h2 => by have h3 := h2.2; unfold kt_edge at h3; omega)⟩) rfl

set_option maxHeartbeats 4000000 in
set_option maxRecDepth 100000 in
theorem c_X11_fieldE (l : Launch) (D : va_G) (cI cZ cB : ClassId) (sz : Nat) (mx : Nat) (ms : Nat) (mk : Nat) (ma : Nat) (mo : Nat) (mg : Nat) (mm : Nat) (mt : Nat) (mn : Nat) (me : Nat) (mq : Nat) (mwo : Nat) (md : Nat) (mf : Nat) (mr : Nat) (ml : Int32) (mw : Int32) (mgl : Int32) (mhd : Int32) (mre : Int32) (mag : Int32) (mkt : Int32) (mho : Int32) (mpc : Int32) (msd : Int32) (mki : Int32) (mdn : Int32) (mun : Int32) (mtk : Int32) (msv : Int32) (fr : Nat → Int32) (p1 : Int32) (hml_ : 2 ≤ ml.toInt ∧ ml.toInt ≤ 9) (hmw : 2 ≤ mw.toInt ∧ mw.toInt ≤ 9) : kt_Mi l yX11_field wsX11_field { frames := 2, cells := 0, slots := 0, locals := 41 } D (kt_ty cI cZ cB) [.ref mx, .int p1] sz [(mx, .inr (11, [.int ml, .int mw, .ref ms, .int mgl, .int mhd, .int mre, .int mag, .int mkt, .int mho, .int mpc, .int msd, .int mki, .ref mk, .ref ma, .ref mo, .ref mg, .ref mm, .ref mt, .int mdn, .int mun, .ref mn, .int mtk, .ref me, .ref mq, .int msv, .ref mwo, .ref md, .ref mf, .ref mr])), (mg, .inl (cI, 81, .inl fr))] (fun (r : Int32) (u : Unit) => ((¬ mho.toInt = 0 ∧ 0 ≤ p1.toInt ∧ p1.toInt < ml.toInt * mw.toInt) → kt_fvl (kt_gt (fr p1.toNatClampNeg)) (kt_goR mgl mw.toInt ml.toInt (fr p1.toNatClampNeg) p1.toInt) r.toInt) ∧ (¬ (¬ mho.toInt = 0 ∧ 0 ≤ p1.toInt ∧ p1.toInt < ml.toInt * mw.toInt) → r.toInt = -1)) (fun (u : Unit) => [(mx, .inr (11, [.int ml, .int mw, .ref ms, .int mgl, .int mhd, .int mre, .int mag, .int mkt, .int mho, .int mpc, .int msd, .int mki, .ref mk, .ref ma, .ref mo, .ref mg, .ref mm, .ref mt, .int mdn, .int mun, .ref mn, .int mtk, .ref me, .ref mq, .int msv, .ref mwo, .ref md, .ref mf, .ref mr])), (mg, .inl (cI, 81, .inl fr))]) 0 0 := by
  refine kt_Mi.of (cc := cX11_field) (maxL := 2) (ret := some .int) (by decide) rfl (Nat.le_of_ble_eq_true rfl) ?_
  intro p e s m below meth c A ls H hAt hP hD hS hl
  obtain ⟨hx, hb, hr, hml, hown, hts, hN, hK, hlk, hnm, hA⟩ := hAt
  have hl : lv_has ls 2 [(0, .ref mx), (1, .int p1)] := hl
  have hown : s.vm.findClass RX11 = some m.cls := hown
  have hsb := kt_mulb hml_ hmw
  refine lv_aload_n hx hb dX11_field_0 rfl (lv_at hl 0 rfl) ?_
  refine va_get (D := D) (ci := 11) (C := RX11) (T := TX11) (N := 29) hx hb hts iw_X11_field_X11 hown hK hP 0 rfl rfl 8 (by decide) (hts (.fieldLink RX11 73 "KingTableModel" "how" "I") (List.mem_cons_of_mem _ (List.mem_append_left _ (List.Mem.head _)))) (fun _ h9 => h9) rfl dX11_field_1 ?_
  refine lv_if_eq (tgt := 21) hx hb dX11_field_4 (by decide) (fun c_4 => ?_) (fun c_4 => ?_)
  · have d_4 := c_4
    simp only [kt_lt, kt_le, kt_eq, kt_c0, kt_c1, kt_c2, kt_c3, kt_c4, kt_c8, kt_c9, kt_cm1, kt_c81, kt_c40, kt_c7, kt_c5, kt_c6, kt_c512, kt_c10, kt_c10000] at d_4
    refine lv_iconst (v := (-1)) hx hb dX11_field_21 (by decide) ?_
    exact kt_ri () hx hb hr hlk hS dX11_field_22 hP hD (by show ((¬ mho.toInt = 0 ∧ 0 ≤ p1.toInt ∧ p1.toInt < ml.toInt * mw.toInt) → kt_fvl (kt_gt (fr p1.toNatClampNeg)) (kt_goR mgl mw.toInt ml.toInt (fr p1.toNatClampNeg) p1.toInt) (-1 : Int32).toInt) ∧ (¬ (¬ mho.toInt = 0 ∧ 0 ≤ p1.toInt ∧ p1.toInt < ml.toInt * mw.toInt) → (-1 : Int32).toInt = -1); first
         | exact ⟨fun h => by exfalso; omega, fun _ => by decide⟩
         | exact ⟨fun h => absurd (by omega) (hw_15.f c_18), fun _ => by decide⟩
         | exact ⟨fun _ => by rcases hv2 with ⟨h1, h2⟩ | ⟨h1, h2⟩; exact Or.inl ⟨h2, by omega⟩; exact Or.inr ⟨h2, by omega⟩, fun h => absurd (by omega) h⟩)
  · have d_4 := c_4
    simp only [kt_lt, kt_le, kt_eq, kt_c0, kt_c1, kt_c2, kt_c3, kt_c4, kt_c8, kt_c9, kt_cm1, kt_c81, kt_c40, kt_c7, kt_c5, kt_c6, kt_c512, kt_c10, kt_c10000] at d_4
    refine lv_iload_n hx hb dX11_field_7 rfl (lv_at hl 1 rfl) ?_
    refine lv_iconst (v := 0) hx hb dX11_field_8 (by decide) ?_
    refine lv_aload_n hx hb dX11_field_9 rfl (lv_at hl 0 rfl) ?_
    refine kt_pi (wc := [(mx, .inr (11, [.int ml, .int mw, .ref ms, .int mgl, .int mhd, .int mre, .int mag, .int mkt, .int mho, .int mpc, .int msd, .int mki, .ref mk, .ref ma, .ref mo, .ref mg, .ref mm, .ref mt, .int mdn, .int mun, .ref mn, .int mtk, .ref me, .ref mq, .int msv, .ref mwo, .ref md, .ref mf, .ref mr]))]) [0] hP hD hS hA rfl (by decide) (fun hPc hDc => va_runV (As := []) (rest := [.int 0, .int p1]) ⟨hx, hb, hml, hown, hts⟩ (c_X11_fields l D cI cZ cB H.size mx ms mk ma mo mg mm mt mn me mq mwo md mf mr ml mw mgl mhd mre mag mkt mho mpc msd mki mdn mun mtk msv (by first | assumption | omega | rfl | decide) (by first | assumption | omega | rfl | decide)) (cwV 0 hts gX11_field_X11_fields rfl rfl rfl (by decide +kernel) ⟨Nat.le_of_ble_eq_true rfl, Nat.le_of_ble_eq_true rfl⟩) (kt_preV hN hK hPc hDc 0 (ci := 11) (q := (RX11, TX11, 29)) rfl rfl) rfl rfl hl.1 rfl (lv_room (Nat.le_of_ble_eq_true rfl)) dX11_field_10 ⟨Nat.le_of_ble_eq_true rfl, Nat.le_of_ble_eq_true rfl⟩) (fun r_10 _ H locs hw_10 hP hS => ?_)
    refine lv_iconst (v := 1) hx hb dX11_field_13 (by decide) ?_
    refine lv_isub hx hb dX11_field_14 ?_
    refine lv_topi (fun t_14 et_14 => ?_)
    first | have hk_14 := kt_subx et_14 (by first | omega | (simp only [kt_c0, kt_c1, kt_c2, kt_c3, kt_c4, kt_c8, kt_c9, kt_cm1, kt_c81, kt_c40, kt_c7, kt_c5, kt_c6, kt_c512, kt_c10, kt_c10000]; omega)) (by first | omega | (simp only [kt_c0, kt_c1, kt_c2, kt_c3, kt_c4, kt_c8, kt_c9, kt_cm1, kt_c81, kt_c40, kt_c7, kt_c5, kt_c6, kt_c512, kt_c10, kt_c10000]; omega)) | obtain ⟨k_14, hk_14, hm_14, hM_14⟩ := kt_subk et_14
    try simp only [kt_c0, kt_c1, kt_c2, kt_c3, kt_c4, kt_c8, kt_c9, kt_cm1, kt_c81, kt_c40, kt_c7, kt_c5, kt_c6, kt_c512, kt_c10, kt_c10000] at hk_14
    refine kt_pi (wc := []) [] hP hD hS hA rfl (by decide) (fun hPc hDc => va_runS (As := [.int p1, .int 0, .int t_14]) (rest := []) ⟨hx, hb, hml, hown, hts⟩ (c_X11_isIn l D cI cZ cB H.size p1 0 t_14 ) (va_cwS 3 hts gX11_field_X11_isIn rfl rfl rfl (by decide +kernel) ⟨Nat.le_of_ble_eq_true rfl, Nat.le_of_ble_eq_true rfl⟩) (kt_preS hN hK hPc hDc) rfl rfl hl.1 rfl (lv_room (Nat.le_of_ble_eq_true rfl)) dX11_field_15 ⟨Nat.le_of_ble_eq_true rfl, Nat.le_of_ble_eq_true rfl⟩) (fun r_15 _ H locs hw_15 hP hS => ?_)
    simp only [kt_c0] at hw_15
    refine lv_if_ne (tgt := 23) hx hb dX11_field_18 (by decide) (fun c_18 => ?_) (fun c_18 => ?_)
    · have d_18 := c_18
      simp only [kt_lt, kt_le, kt_eq, kt_c0, kt_c1, kt_c2, kt_c3, kt_c4, kt_c8, kt_c9, kt_cm1, kt_c81, kt_c40, kt_c7, kt_c5, kt_c6, kt_c512, kt_c10, kt_c10000] at d_18
      have hq1 := hw_15.t c_18
      refine lv_aload_n hx hb dX11_field_23 rfl (lv_at hl 0 rfl) ?_
      refine va_get (D := D) (ci := 11) (C := RX11) (T := TX11) (N := 29) hx hb hts iw_X11_field_X11 hown hK hP 0 rfl rfl 15 (by decide) (hts (.fieldLink RX11 36 "KingTableModel" "ground" "[I") (List.mem_cons_of_mem _ (List.mem_append_left _ (List.mem_cons_of_mem _ (List.Mem.head _))))) (fun _ h9 => h9) rfl dX11_field_24 ?_
      refine lv_iload_n hx hb dX11_field_27 rfl (lv_at hl 1 rfl) ?_
      have hi_1 : vp_in p1 81 := by exact kt_in (by omega) (by omega)
      refine va_iald hx hb hK hP 1 0 rfl rfl hi_1 dX11_field_28 ?_
      refine lv_topi (fun a_28 ea_28 => ?_)
      refine lv_iconst (v := 5) hx hb dX11_field_29 (by decide) ?_
      refine kt_join (σ := Int32) 53 2 (fun u => [(mx, .inr (11, [.int ml, .int mw, .ref ms, .int mgl, .int mhd, .int mre, .int mag, .int mkt, .int mho, .int mpc, .int msd, .int mki, .ref mk, .ref ma, .ref mo, .ref mg, .ref mm, .ref mt, .int mdn, .int mun, .ref mn, .int mtk, .ref me, .ref mq, .int msv, .ref mwo, .ref md, .ref mf, .ref mr])), (mg, .inl (cI, 81, .inl fr))]) (fun u => [(0, .ref mx), (1, .int p1)]) (fun u => [.int u]) (fun u => u.toInt = kt_gt (fr p1.toNatClampNeg) ∧ 0 ≤ u.toInt ∧ u.toInt ≤ 2) (D := D) (A := A) (H0 := s.heap) (fun u hI H locs hP hD hS ls hl => ?_) (fun j_53 => ?_)
      · obtain ⟨v, rfl⟩ : ∃ z, z = u := ⟨_, rfl⟩
        have hP : va_P D vwCl [(mx, .inr (11, [.int ml, .int mw, .ref ms, .int mgl, .int mhd, .int mre, .int mag, .int mkt, .int mho, .int mpc, .int msd, .int mki, .ref mk, .ref ma, .ref mo, .ref mg, .ref mm, .ref mt, .int mdn, .int mun, .ref mn, .int mtk, .ref me, .ref mq, .int msv, .ref mwo, .ref md, .ref mf, .ref mr])), (mg, .inl (cI, 81, .inl fr))] H := hP
        have hD : va_D A [(mx, .inr (11, [.int ml, .int mw, .ref ms, .int mgl, .int mhd, .int mre, .int mag, .int mkt, .int mho, .int mpc, .int msd, .int mki, .ref mk, .ref ma, .ref mo, .ref mg, .ref mm, .ref mt, .int mdn, .int mun, .ref mn, .int mtk, .ref me, .ref mq, .int msv, .ref mwo, .ref md, .ref mf, .ref mr])), (mg, .inl (cI, 81, .inl fr))] := hD
        have hl : lv_has ls 2 [(0, .ref mx), (1, .int p1)] := hl
        have hI : v.toInt = kt_gt (fr p1.toNatClampNeg) ∧ 0 ≤ v.toInt ∧ v.toInt ≤ 2 := hI
        obtain ⟨hv, hvr⟩ := hI
        refine lv_aload_n hx hb dX11_field_53 rfl (lv_at hl 0 rfl) ?_
        refine lv_iload_n hx hb dX11_field_54 rfl (lv_at hl 1 rfl) ?_
        refine kt_pi (wc := [(mx, .inr (11, [.int ml, .int mw, .ref ms, .int mgl, .int mhd, .int mre, .int mag, .int mkt, .int mho, .int mpc, .int msd, .int mki, .ref mk, .ref ma, .ref mo, .ref mg, .ref mm, .ref mt, .int mdn, .int mun, .ref mn, .int mtk, .ref me, .ref mq, .int msv, .ref mwo, .ref md, .ref mf, .ref mr])), (mg, .inl (cI, 81, .inl fr))]) [0, 1] hP hD hS hA rfl (by decide) (fun hPc hDc => va_runV (As := [.int p1]) (rest := [.int v]) ⟨hx, hb, hml, hown, hts⟩ (c_X11_isGoalE l D cI cZ cB H.size mx ms mk ma mo mg mm mt mn me mq mwo md mf mr ml mw mgl mhd mre mag mkt mho mpc msd mki mdn mun mtk msv fr p1 (by first | assumption | omega | rfl | decide) (by first | assumption | omega | rfl | decide) (by first | assumption | omega | rfl | decide)) (cwV 1 hts gX11_field_X11_isGoal rfl rfl rfl (by decide +kernel) ⟨Nat.le_of_ble_eq_true rfl, Nat.le_of_ble_eq_true rfl⟩) (kt_preV hN hK hPc hDc 0 (ci := 11) (q := (RX11, TX11, 29)) rfl rfl) rfl rfl hl.1 rfl (lv_room (Nat.le_of_ble_eq_true rfl)) dX11_field_55 ⟨Nat.le_of_ble_eq_true rfl, Nat.le_of_ble_eq_true rfl⟩) (fun r_55 _ H locs hw_55 hP hS => ?_)
        refine kt_join (σ := Int32) 66 2 (fun u => [(mx, .inr (11, [.int ml, .int mw, .ref ms, .int mgl, .int mhd, .int mre, .int mag, .int mkt, .int mho, .int mpc, .int msd, .int mki, .ref mk, .ref ma, .ref mo, .ref mg, .ref mm, .ref mt, .int mdn, .int mun, .ref mn, .int mtk, .ref me, .ref mq, .int msv, .ref mwo, .ref md, .ref mf, .ref mr])), (mg, .inl (cI, 81, .inl fr))]) (fun u => [(0, .ref mx), (1, .int p1)]) (fun u => [.int u, .int v]) (fun u => (u.toInt = 4 ∧ kt_goR mgl mw.toInt ml.toInt (fr p1.toNatClampNeg) p1.toInt) ∨ (u.toInt = 0 ∧ ¬ kt_goR mgl mw.toInt ml.toInt (fr p1.toNatClampNeg) p1.toInt)) (D := D) (A := A) (H0 := s.heap) (fun u hI H locs hP hD hS ls hl => ?_) (fun j_66 => ?_)
        · obtain ⟨v2, rfl⟩ : ∃ z, z = u := ⟨_, rfl⟩
          have hP : va_P D vwCl [(mx, .inr (11, [.int ml, .int mw, .ref ms, .int mgl, .int mhd, .int mre, .int mag, .int mkt, .int mho, .int mpc, .int msd, .int mki, .ref mk, .ref ma, .ref mo, .ref mg, .ref mm, .ref mt, .int mdn, .int mun, .ref mn, .int mtk, .ref me, .ref mq, .int msv, .ref mwo, .ref md, .ref mf, .ref mr])), (mg, .inl (cI, 81, .inl fr))] H := hP
          have hD : va_D A [(mx, .inr (11, [.int ml, .int mw, .ref ms, .int mgl, .int mhd, .int mre, .int mag, .int mkt, .int mho, .int mpc, .int msd, .int mki, .ref mk, .ref ma, .ref mo, .ref mg, .ref mm, .ref mt, .int mdn, .int mun, .ref mn, .int mtk, .ref me, .ref mq, .int msv, .ref mwo, .ref md, .ref mf, .ref mr])), (mg, .inl (cI, 81, .inl fr))] := hD
          have hl : lv_has ls 2 [(0, .ref mx), (1, .int p1)] := hl
          have hI : (v2.toInt = 4 ∧ kt_goR mgl mw.toInt ml.toInt (fr p1.toNatClampNeg) p1.toInt) ∨ (v2.toInt = 0 ∧ ¬ kt_goR mgl mw.toInt ml.toInt (fr p1.toNatClampNeg) p1.toInt) := hI
          have hv2 := hI
          have hv4 : 0 ≤ v2.toInt ∧ v2.toInt ≤ 4 := by omega
          refine lv_iadd hx hb dX11_field_66 ?_
          refine lv_topi (fun t_66 et_66 => ?_)
          first | have hk_66 := kt_addx et_66 (by first | omega | (simp only [kt_c0, kt_c1, kt_c2, kt_c3, kt_c4, kt_c8, kt_c9, kt_cm1, kt_c81, kt_c40, kt_c7, kt_c5, kt_c6, kt_c512, kt_c10, kt_c10000]; omega)) (by first | omega | (simp only [kt_c0, kt_c1, kt_c2, kt_c3, kt_c4, kt_c8, kt_c9, kt_cm1, kt_c81, kt_c40, kt_c7, kt_c5, kt_c6, kt_c512, kt_c10, kt_c10000]; omega)) | obtain ⟨k_66, hk_66, hm_66, hM_66⟩ := kt_addk et_66
          exact kt_ri () hx hb hr hlk hS dX11_field_67 hP hD (by show ((¬ mho.toInt = 0 ∧ 0 ≤ p1.toInt ∧ p1.toInt < ml.toInt * mw.toInt) → kt_fvl (kt_gt (fr p1.toNatClampNeg)) (kt_goR mgl mw.toInt ml.toInt (fr p1.toNatClampNeg) p1.toInt) t_66.toInt) ∧ (¬ (¬ mho.toInt = 0 ∧ 0 ≤ p1.toInt ∧ p1.toInt < ml.toInt * mw.toInt) → t_66.toInt = -1); first
               | exact ⟨fun h => by exfalso; omega, fun _ => by decide⟩
               | exact ⟨fun h => absurd (by omega) (hw_15.f c_18), fun _ => by decide⟩
               | exact ⟨fun _ => by rcases hv2 with ⟨h1, h2⟩ | ⟨h1, h2⟩; exact Or.inl ⟨h2, by omega⟩; exact Or.inr ⟨h2, by omega⟩, fun h => absurd (by omega) h⟩)
        refine lv_if_eq (tgt := 65) hx hb dX11_field_58 (by decide) (fun c_58 => ?_) (fun c_58 => ?_)
        · have d_58 := c_58
          simp only [kt_lt, kt_le, kt_eq, kt_c0, kt_c1, kt_c2, kt_c3, kt_c4, kt_c8, kt_c9, kt_cm1, kt_c81, kt_c40, kt_c7, kt_c5, kt_c6, kt_c512, kt_c10, kt_c10000] at d_58
          refine lv_iconst (v := 0) hx hb dX11_field_65 (by decide) ?_
          exact j_66 (0 : Int32) (by show ((0 : Int32).toInt = 4 ∧ kt_goR mgl mw.toInt ml.toInt (fr p1.toNatClampNeg) p1.toInt) ∨ ((0 : Int32).toInt = 0 ∧ ¬ kt_goR mgl mw.toInt ml.toInt (fr p1.toNatClampNeg) p1.toInt); first | exact Or.inl ⟨by decide, hw_55.t c_58⟩ | exact Or.inr ⟨by decide, hw_55.f c_58⟩) H _ hP hD hS ls (lv_sub hl [0, 1] rfl)
        · have d_58 := c_58
          simp only [kt_lt, kt_le, kt_eq, kt_c0, kt_c1, kt_c2, kt_c3, kt_c4, kt_c8, kt_c9, kt_cm1, kt_c81, kt_c40, kt_c7, kt_c5, kt_c6, kt_c512, kt_c10, kt_c10000] at d_58
          refine lv_iconst (v := 4) hx hb dX11_field_61 (by decide) ?_
          refine lv_goto (tgt := 66) hx hb dX11_field_62 (by decide) ?_
          exact j_66 (4 : Int32) (by show ((4 : Int32).toInt = 4 ∧ kt_goR mgl mw.toInt ml.toInt (fr p1.toNatClampNeg) p1.toInt) ∨ ((4 : Int32).toInt = 0 ∧ ¬ kt_goR mgl mw.toInt ml.toInt (fr p1.toNatClampNeg) p1.toInt); first | exact Or.inl ⟨by decide, hw_55.t c_58⟩ | exact Or.inr ⟨by decide, hw_55.f c_58⟩) H _ hP hD hS ls (lv_sub hl [0, 1] rfl)
      refine lv_icmp_ne (tgt := 37) hx hb dX11_field_30 (by decide) (fun c_30 => ?_) (fun c_30 => ?_)
      · have d_30 := c_30
        simp only [kt_lt, kt_le, kt_eq, kt_c0, kt_c1, kt_c2, kt_c3, kt_c4, kt_c8, kt_c9, kt_cm1, kt_c81, kt_c40, kt_c7, kt_c5, kt_c6, kt_c512, kt_c10, kt_c10000] at d_30
        refine lv_aload_n hx hb dX11_field_37 rfl (lv_at hl 0 rfl) ?_
        refine va_get (D := D) (ci := 11) (C := RX11) (T := TX11) (N := 29) hx hb hts iw_X11_field_X11 hown hK hP 0 rfl rfl 15 (by decide) (hts (.fieldLink RX11 36 "KingTableModel" "ground" "[I") (List.mem_cons_of_mem _ (List.mem_append_left _ (List.mem_cons_of_mem _ (List.Mem.head _))))) (fun _ h9 => h9) rfl dX11_field_38 ?_
        refine lv_iload_n hx hb dX11_field_41 rfl (lv_at hl 1 rfl) ?_
        have hi_2 : vp_in p1 81 := by exact kt_in (by omega) (by omega)
        refine va_iald hx hb hK hP 1 0 rfl rfl hi_2 dX11_field_42 ?_
        refine lv_topi (fun a_42 ea_42 => ?_)
        refine lv_bipush (v := 6) hx hb dX11_field_43 (by decide) ?_
        refine lv_icmp_ne (tgt := 52) hx hb dX11_field_45 (by decide) (fun c_45 => ?_) (fun c_45 => ?_)
        · have d_45 := c_45
          simp only [kt_lt, kt_le, kt_eq, kt_c0, kt_c1, kt_c2, kt_c3, kt_c4, kt_c8, kt_c9, kt_cm1, kt_c81, kt_c40, kt_c7, kt_c5, kt_c6, kt_c512, kt_c10, kt_c10000] at d_45
          refine lv_iconst (v := 0) hx hb dX11_field_52 (by decide) ?_
          exact j_53 (0 : Int32) (by show (0 : Int32).toInt = kt_gt (fr p1.toNatClampNeg) ∧ 0 ≤ (0 : Int32).toInt ∧ (0 : Int32).toInt ≤ 2; unfold kt_gt; first | exact ⟨by rw [if_pos (ea_28.symm.trans c_30)]; decide, by decide⟩ | exact ⟨by rw [if_neg (fun h => c_30 (ea_28.trans h)), if_pos (ea_42.symm.trans c_45)]; decide, by decide⟩ | exact ⟨by rw [if_neg (fun h => c_30 (ea_28.trans h)), if_neg (fun h => c_45 (ea_42.trans h))]; decide, by decide⟩) H _ hP hD hS ls (lv_sub hl [0, 1] rfl)
        · have d_45 := c_45
          simp only [kt_lt, kt_le, kt_eq, kt_c0, kt_c1, kt_c2, kt_c3, kt_c4, kt_c8, kt_c9, kt_cm1, kt_c81, kt_c40, kt_c7, kt_c5, kt_c6, kt_c512, kt_c10, kt_c10000] at d_45
          refine lv_iconst (v := 2) hx hb dX11_field_48 (by decide) ?_
          refine lv_goto (tgt := 53) hx hb dX11_field_49 (by decide) ?_
          exact j_53 (2 : Int32) (by show (2 : Int32).toInt = kt_gt (fr p1.toNatClampNeg) ∧ 0 ≤ (2 : Int32).toInt ∧ (2 : Int32).toInt ≤ 2; unfold kt_gt; first | exact ⟨by rw [if_pos (ea_28.symm.trans c_30)]; decide, by decide⟩ | exact ⟨by rw [if_neg (fun h => c_30 (ea_28.trans h)), if_pos (ea_42.symm.trans c_45)]; decide, by decide⟩ | exact ⟨by rw [if_neg (fun h => c_30 (ea_28.trans h)), if_neg (fun h => c_45 (ea_42.trans h))]; decide, by decide⟩) H _ hP hD hS ls (lv_sub hl [0, 1] rfl)
      · have d_30 := c_30
        simp only [kt_lt, kt_le, kt_eq, kt_c0, kt_c1, kt_c2, kt_c3, kt_c4, kt_c8, kt_c9, kt_cm1, kt_c81, kt_c40, kt_c7, kt_c5, kt_c6, kt_c512, kt_c10, kt_c10000] at d_30
        refine lv_iconst (v := 1) hx hb dX11_field_33 (by decide) ?_
        refine lv_goto (tgt := 53) hx hb dX11_field_34 (by decide) ?_
        exact j_53 (1 : Int32) (by show (1 : Int32).toInt = kt_gt (fr p1.toNatClampNeg) ∧ 0 ≤ (1 : Int32).toInt ∧ (1 : Int32).toInt ≤ 2; unfold kt_gt; first | exact ⟨by rw [if_pos (ea_28.symm.trans c_30)]; decide, by decide⟩ | exact ⟨by rw [if_neg (fun h => c_30 (ea_28.trans h)), if_pos (ea_42.symm.trans c_45)]; decide, by decide⟩ | exact ⟨by rw [if_neg (fun h => c_30 (ea_28.trans h)), if_neg (fun h => c_45 (ea_42.trans h))]; decide, by decide⟩) H _ hP hD hS ls (lv_sub hl [0, 1] rfl)
    · have d_18 := c_18
      simp only [kt_lt, kt_le, kt_eq, kt_c0, kt_c1, kt_c2, kt_c3, kt_c4, kt_c8, kt_c9, kt_cm1, kt_c81, kt_c40, kt_c7, kt_c5, kt_c6, kt_c512, kt_c10, kt_c10000] at d_18
      refine lv_iconst (v := (-1)) hx hb dX11_field_21 (by decide) ?_
      exact kt_ri () hx hb hr hlk hS dX11_field_22 hP hD (by show ((¬ mho.toInt = 0 ∧ 0 ≤ p1.toInt ∧ p1.toInt < ml.toInt * mw.toInt) → kt_fvl (kt_gt (fr p1.toNatClampNeg)) (kt_goR mgl mw.toInt ml.toInt (fr p1.toNatClampNeg) p1.toInt) (-1 : Int32).toInt) ∧ (¬ (¬ mho.toInt = 0 ∧ 0 ≤ p1.toInt ∧ p1.toInt < ml.toInt * mw.toInt) → (-1 : Int32).toInt = -1); first
           | exact ⟨fun h => by exfalso; omega, fun _ => by decide⟩
           | exact ⟨fun h => absurd (by omega) (hw_15.f c_18), fun _ => by decide⟩
           | exact ⟨fun _ => by rcases hv2 with ⟨h1, h2⟩ | ⟨h1, h2⟩; exact Or.inl ⟨h2, by omega⟩; exact Or.inr ⟨h2, by omega⟩, fun h => absurd (by omega) h⟩)
