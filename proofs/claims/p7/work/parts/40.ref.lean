theorem kt_negk {t x : Int32} (h : t = -x) : ∃ k : Int, t.toInt = -x.toInt + 4294967296 * k ∧ -2147483648 ≤ t.toInt ∧ t.toInt < 2147483648 := by
  obtain ⟨k, hk⟩ := kt_bm (-x.toInt)
  exact ⟨k, by rw [h, Int32.toInt_neg]; exact hk, (kt_rng t).1, (kt_rng t).2⟩
theorem kt_divk {t x y : Int32} (h : t = x / y) (hx : 0 ≤ x.toInt) (hy : 0 < y.toInt) : t.toInt = x.toInt / y.toInt := by
  have ex := kt_nIof hx
  have ey := kt_nIof (x := y) (by omega)
  have bx := kt_rng x
  have bY := kt_rng y
  generalize hX : x.toInt.toNat = X at ex
  generalize hY : y.toInt.toNat = Y at ey
  have e1 : x.toInt = (X : Int) := by omega
  have e2 : y.toInt = (Y : Int) := by omega
  rw [h, e1, e2, ex, ey, pk_div (by omega) (by omega) (by omega), nI_toInt (by have := Nat.div_le_self X Y; omega)]
  exact Int.natCast_ediv X Y
theorem kt_remk {t x y : Int32} (h : t = x - x / y * y) (hx : 0 ≤ x.toInt) (hy : 0 < y.toInt) : t.toInt = x.toInt % y.toInt := by
  have ex := kt_nIof hx
  have ey := kt_nIof (x := y) (by omega)
  have bx := kt_rng x
  have bY := kt_rng y
  generalize hX : x.toInt.toNat = X at ex
  generalize hY : y.toInt.toNat = Y at ey
  have e1 : x.toInt = (X : Int) := by omega
  have e2 : y.toInt = (Y : Int) := by omega
  rw [h, e1, e2, ex, ey, pk_rem (by omega) (by omega) (by omega), nI_toInt (by have := Nat.mod_le X Y; omega)]
  exact Int.natCast_emod X Y
/-- a step of some fields one way stays on the board -/
theorem kt_alng {f w L a : Int} (hw : 2 ≤ w ∧ w ≤ 9) (hL : 2 ≤ L ∧ L ≤ 9) (hf : 0 ≤ f ∧ f < L * w) (ha : 1 ≤ a) : (a ≤ f / w → 0 ≤ f - a * w ∧ a * w ≤ 72 ∧ 0 ≤ a * w) ∧ (a ≤ w - 1 - f % w → f + a < L * w) ∧ (a ≤ L - 1 - f / w → f + a * w < L * w ∧ a * w ≤ 72 ∧ 0 ≤ a * w) ∧ (a ≤ f % w → 0 ≤ f - a) ∧ 0 ≤ f / w ∧ f / w ≤ 8 ∧ 0 ≤ f % w ∧ f % w ≤ 8 ∧ f < 81 ∧ L * w ≤ 81 := by
  rcases (show w = 2 ∨ w = 3 ∨ w = 4 ∨ w = 5 ∨ w = 6 ∨ w = 7 ∨ w = 8 ∨ w = 9 by omega) with rfl | rfl | rfl | rfl | rfl | rfl | rfl | rfl <;> omega

/-- how far a way goes from a field -/
def kt_rom (f w L a : Int) : Int := if a = 0 then f / w else if a = 1 then w - 1 - f % w else if a = 2 then L - 1 - f / w else f % w
theorem kt_rom_c (f w L a : Int) : (a = 0 → kt_rom f w L a = f / w) ∧ (a = 1 → kt_rom f w L a = w - 1 - f % w) ∧ (a = 2 → kt_rom f w L a = L - 1 - f / w) ∧ (a ≠ 0 → a ≠ 1 → a ≠ 2 → kt_rom f w L a = f % w) := by
  unfold kt_rom
  refine ⟨fun h => if_pos h, fun h => ?_, fun h => ?_, fun h1 h2 h3 => ?_⟩
  · rw [if_neg (by omega), if_pos h]
  · rw [if_neg (by omega), if_neg (by omega), if_pos h]
  · rw [if_neg h1, if_neg h2, if_neg h3]
theorem kt_rom_b {f w L a : Int} (hw : 2 ≤ w ∧ w ≤ 9) (hL : 2 ≤ L ∧ L ≤ 9) (hf : 0 ≤ f ∧ f < L * w) : 0 ≤ kt_rom f w L a ∧ kt_rom f w L a ≤ 8 := by
  obtain ⟨h0, h1, h2, h3⟩ := kt_rom_c f w L a
  generalize kt_rom f w L a = R at h0 h1 h2 h3 ⊢
  rcases (show w = 2 ∨ w = 3 ∨ w = 4 ∨ w = 5 ∨ w = 6 ∨ w = 7 ∨ w = 8 ∨ w = 9 by omega) with rfl | rfl | rfl | rfl | rfl | rfl | rfl | rfl <;> omega

set_option maxHeartbeats 4000000 in
set_option maxRecDepth 100000 in
theorem c_X11_isIn (l : Launch) (D : va_G) (cI cZ cB : ClassId) (sz : Nat) (p0 : Int32) (p1 : Int32) (p2 : Int32) : kt_Mi l yX11_isIn wsX11_isIn { frames := 0, cells := 0, slots := 0, locals := 0 } D (kt_ty cI cZ cB) [.int p0, .int p1, .int p2] sz [] (fun (r : Int32) (u : Unit) => kt_B r (p1.toInt ≤ p0.toInt ∧ p0.toInt ≤ p2.toInt)) (fun (u : Unit) => []) 0 0 := by
  refine kt_Mi.of (cc := cX11_isIn) (maxL := 3) (ret := some .boolean) (by decide) rfl (Nat.le_of_ble_eq_true rfl) ?_
  intro p e s m below meth c A ls H hAt hP hD hS hl
  obtain ⟨hx, hb, hr, hml, hown, hts, hN, hK, hlk, hnm, hA⟩ := hAt
  have hl : lv_has ls 3 [(0, .int p0), (1, .int p1), (2, .int p2)] := hl
  have hown : s.vm.findClass RX11 = some m.cls := hown
  refine lv_iload_n hx hb dX11_isIn_0 rfl (lv_at hl 0 rfl) ?_
  refine lv_iload_n hx hb dX11_isIn_1 rfl (lv_at hl 1 rfl) ?_
  refine lv_icmp_lt (tgt := 14) hx hb dX11_isIn_2 (by decide) (fun c_2 => ?_) (fun c_2 => ?_)
  · have d_2 := c_2
    simp only [kt_lt, kt_le, kt_eq, kt_c0, kt_c1, kt_c2, kt_c3, kt_c4, kt_c8, kt_c9, kt_cm1, kt_c81, kt_c40, kt_c7, kt_c5, kt_c6, kt_c512, kt_c10, kt_c10000] at d_2
    refine lv_iconst (v := 0) hx hb dX11_isIn_14 (by decide) ?_
    exact kt_rz () hx hb hr hlk hS dX11_isIn_15 hP hD (by show kt_B (0 : Int32) (p1.toInt ≤ p0.toInt ∧ p0.toInt ≤ p2.toInt); first | exact Or.inl ⟨rfl, by omega⟩ | exact Or.inr ⟨rfl, by omega⟩) rfl
  · have d_2 := c_2
    simp only [kt_lt, kt_le, kt_eq, kt_c0, kt_c1, kt_c2, kt_c3, kt_c4, kt_c8, kt_c9, kt_cm1, kt_c81, kt_c40, kt_c7, kt_c5, kt_c6, kt_c512, kt_c10, kt_c10000] at d_2
    refine lv_iload_n hx hb dX11_isIn_5 rfl (lv_at hl 0 rfl) ?_
    refine lv_iload_n hx hb dX11_isIn_6 rfl (lv_at hl 2 rfl) ?_
    refine lv_icmp_gt (tgt := 14) hx hb dX11_isIn_7 (by decide) (fun c_7 => ?_) (fun c_7 => ?_)
    · have d_7 := c_7
      simp only [kt_lt, kt_le, kt_eq, kt_c0, kt_c1, kt_c2, kt_c3, kt_c4, kt_c8, kt_c9, kt_cm1, kt_c81, kt_c40, kt_c7, kt_c5, kt_c6, kt_c512, kt_c10, kt_c10000] at d_7
      refine lv_iconst (v := 0) hx hb dX11_isIn_14 (by decide) ?_
      exact kt_rz () hx hb hr hlk hS dX11_isIn_15 hP hD (by show kt_B (0 : Int32) (p1.toInt ≤ p0.toInt ∧ p0.toInt ≤ p2.toInt); first | exact Or.inl ⟨rfl, by omega⟩ | exact Or.inr ⟨rfl, by omega⟩) rfl
    · have d_7 := c_7
      simp only [kt_lt, kt_le, kt_eq, kt_c0, kt_c1, kt_c2, kt_c3, kt_c4, kt_c8, kt_c9, kt_cm1, kt_c81, kt_c40, kt_c7, kt_c5, kt_c6, kt_c512, kt_c10, kt_c10000] at d_7
      refine lv_iconst (v := 1) hx hb dX11_isIn_10 (by decide) ?_
      refine lv_goto (tgt := 15) hx hb dX11_isIn_11 (by decide) ?_
      exact kt_rz () hx hb hr hlk hS dX11_isIn_15 hP hD (by show kt_B (1 : Int32) (p1.toInt ≤ p0.toInt ∧ p0.toInt ≤ p2.toInt); first | exact Or.inl ⟨rfl, by omega⟩ | exact Or.inr ⟨rfl, by omega⟩) rfl

theorem iw_X11_fields_X11 : ∀ w ∈ wsX110, w ∈ wsX11_fields := fun _ h => kt_wp_X11_fields__X110 h
set_option maxHeartbeats 4000000 in
set_option maxRecDepth 100000 in
theorem c_X11_fields (l : Launch) (D : va_G) (cI cZ cB : ClassId) (sz : Nat) (mx : Nat) (ms : Nat) (mk : Nat) (ma : Nat) (mo : Nat) (mg : Nat) (mm : Nat) (mt : Nat) (mn : Nat) (me : Nat) (mq : Nat) (mwo : Nat) (md : Nat) (mf : Nat) (mr : Nat) (ml : Int32) (mw : Int32) (mgl : Int32) (mhd : Int32) (mre : Int32) (mag : Int32) (mkt : Int32) (mho : Int32) (mpc : Int32) (msd : Int32) (mki : Int32) (mdn : Int32) (mun : Int32) (mtk : Int32) (msv : Int32) (hml_ : 2 ≤ ml.toInt ∧ ml.toInt ≤ 9) (hmw : 2 ≤ mw.toInt ∧ mw.toInt ≤ 9) : kt_Mi l yX11_fields wsX11_fields { frames := 0, cells := 0, slots := 0, locals := 0 } D (kt_ty cI cZ cB) [.ref mx] sz [(mx, .inr (11, [.int ml, .int mw, .ref ms, .int mgl, .int mhd, .int mre, .int mag, .int mkt, .int mho, .int mpc, .int msd, .int mki, .ref mk, .ref ma, .ref mo, .ref mg, .ref mm, .ref mt, .int mdn, .int mun, .ref mn, .int mtk, .ref me, .ref mq, .int msv, .ref mwo, .ref md, .ref mf, .ref mr]))] (fun (r : Int32) (u : Unit) => r.toInt = ml.toInt * mw.toInt ∧ 4 ≤ r.toInt ∧ r.toInt ≤ 81) (fun (u : Unit) => [(mx, .inr (11, [.int ml, .int mw, .ref ms, .int mgl, .int mhd, .int mre, .int mag, .int mkt, .int mho, .int mpc, .int msd, .int mki, .ref mk, .ref ma, .ref mo, .ref mg, .ref mm, .ref mt, .int mdn, .int mun, .ref mn, .int mtk, .ref me, .ref mq, .int msv, .ref mwo, .ref md, .ref mf, .ref mr]))]) 0 0 := by
  refine kt_Mi.of (cc := cX11_fields) (maxL := 1) (ret := some .int) (by decide) rfl (Nat.le_of_ble_eq_true rfl) ?_
  intro p e s m below meth c A ls H hAt hP hD hS hl
  obtain ⟨hx, hb, hr, hml, hown, hts, hN, hK, hlk, hnm, hA⟩ := hAt
  have hl : lv_has ls 1 [(0, .ref mx)] := hl
  have hown : s.vm.findClass RX11 = some m.cls := hown
  refine lv_aload_n hx hb dX11_fields_0 rfl (lv_at hl 0 rfl) ?_
  refine va_get (D := D) (ci := 11) (C := RX11) (T := TX11) (N := 29) hx hb hts iw_X11_fields_X11 hown hK hP 0 rfl rfl 0 (by decide) (hts (.fieldLink RX11 7 "KingTableModel" "lines" "I") (List.mem_cons_of_mem _ (List.mem_append_left _ (List.Mem.head _)))) (fun _ h9 => h9) rfl dX11_fields_1 ?_
  refine lv_aload_n hx hb dX11_fields_4 rfl (lv_at hl 0 rfl) ?_
  refine va_get (D := D) (ci := 11) (C := RX11) (T := TX11) (N := 29) hx hb hts iw_X11_fields_X11 hown hK hP 0 rfl rfl 1 (by decide) (hts (.fieldLink RX11 13 "KingTableModel" "wide" "I") (List.mem_cons_of_mem _ (List.mem_append_left _ (List.mem_cons_of_mem _ (List.Mem.head _))))) (fun _ h9 => h9) rfl dX11_fields_5 ?_
  refine lv_imul hx hb dX11_fields_8 ?_
  refine lv_topi (fun t_8 et_8 => ?_)
  obtain ⟨k_8, hk_8, hm_8, hM_8⟩ := kt_mulxk et_8
  exact kt_ri () hx hb hr hlk hS dX11_fields_9 hP hD (by show t_8.toInt = ml.toInt * mw.toInt ∧ 4 ≤ t_8.toInt ∧ t_8.toInt ≤ 81; have h0 := kt_mulb hml_ hmw; omega)

theorem iw_X11_sideOf_X11 : ∀ w ∈ wsX110, w ∈ wsX11_sideOf := fun _ h => kt_wp_X11_sideOf__X110 h
set_option maxHeartbeats 4000000 in
set_option maxRecDepth 100000 in
theorem c_X11_sideOf (l : Launch) (D : va_G) (cI cZ cB : ClassId) (sz : Nat) (mx : Nat) (ms : Nat) (mk : Nat) (ma : Nat) (mo : Nat) (mg : Nat) (mm : Nat) (mt : Nat) (mn : Nat) (me : Nat) (mq : Nat) (mwo : Nat) (md : Nat) (mf : Nat) (mr : Nat) (ml : Int32) (mw : Int32) (mgl : Int32) (mhd : Int32) (mre : Int32) (mag : Int32) (mkt : Int32) (mho : Int32) (mpc : Int32) (msd : Int32) (mki : Int32) (mdn : Int32) (mun : Int32) (mtk : Int32) (msv : Int32) (fk : Nat → Int32) (p1 : Int32) (hp1 : 0 ≤ p1.toInt ∧ p1.toInt ≤ 39) : kt_Mi l yX11_sideOf wsX11_sideOf { frames := 0, cells := 0, slots := 0, locals := 0 } D (kt_ty cI cZ cB) [.ref mx, .int p1] sz [(mx, .inr (11, [.int ml, .int mw, .ref ms, .int mgl, .int mhd, .int mre, .int mag, .int mkt, .int mho, .int mpc, .int msd, .int mki, .ref mk, .ref ma, .ref mo, .ref mg, .ref mm, .ref mt, .int mdn, .int mun, .ref mn, .int mtk, .ref me, .ref mq, .int msv, .ref mwo, .ref md, .ref mf, .ref mr])), (mk, .inl (cI, 40, .inl fk))] (fun (r : Int32) (u : Unit) => 0 ≤ r.toInt ∧ r.toInt ≤ 1) (fun (u : Unit) => [(mx, .inr (11, [.int ml, .int mw, .ref ms, .int mgl, .int mhd, .int mre, .int mag, .int mkt, .int mho, .int mpc, .int msd, .int mki, .ref mk, .ref ma, .ref mo, .ref mg, .ref mm, .ref mt, .int mdn, .int mun, .ref mn, .int mtk, .ref me, .ref mq, .int msv, .ref mwo, .ref md, .ref mf, .ref mr])), (mk, .inl (cI, 40, .inl fk))]) 0 0 := by
  refine kt_Mi.of (cc := cX11_sideOf) (maxL := 2) (ret := some .int) (by decide) rfl (Nat.le_of_ble_eq_true rfl) ?_
  intro p e s m below meth c A ls H hAt hP hD hS hl
  obtain ⟨hx, hb, hr, hml, hown, hts, hN, hK, hlk, hnm, hA⟩ := hAt
  have hl : lv_has ls 2 [(0, .ref mx), (1, .int p1)] := hl
  have hown : s.vm.findClass RX11 = some m.cls := hown
  refine lv_aload_n hx hb dX11_sideOf_0 rfl (lv_at hl 0 rfl) ?_
  refine va_get (D := D) (ci := 11) (C := RX11) (T := TX11) (N := 29) hx hb hts iw_X11_sideOf_X11 hown hK hP 0 rfl rfl 12 (by decide) (hts (.fieldLink RX11 27 "KingTableModel" "kind" "[I") (List.mem_cons_of_mem _ (List.mem_append_left _ (List.Mem.head _)))) (fun _ h9 => h9) rfl dX11_sideOf_1 ?_
  refine lv_iload_n hx hb dX11_sideOf_4 rfl (lv_at hl 1 rfl) ?_
  have hi_1 : vp_in p1 40 := by exact kt_in (by omega) (by omega)
  refine va_iald hx hb hK hP 1 0 rfl rfl hi_1 dX11_sideOf_5 ?_
  refine lv_topi (fun a_5 ea_5 => ?_)
  refine lv_iconst (v := 2) hx hb dX11_sideOf_6 (by decide) ?_
  refine lv_icmp_le (tgt := 14) hx hb dX11_sideOf_7 (by decide) (fun c_7 => ?_) (fun c_7 => ?_)
  · have d_7 := c_7
    simp only [kt_lt, kt_le, kt_eq, kt_c0, kt_c1, kt_c2, kt_c3, kt_c4, kt_c8, kt_c9, kt_cm1, kt_c81, kt_c40, kt_c7, kt_c5, kt_c6, kt_c512, kt_c10, kt_c10000] at d_7
    refine lv_iconst (v := 0) hx hb dX11_sideOf_14 (by decide) ?_
    exact kt_ri () hx hb hr hlk hS dX11_sideOf_15 hP hD (by show 0 ≤ (0 : Int32).toInt ∧ (0 : Int32).toInt ≤ 1; decide)
  · have d_7 := c_7
    simp only [kt_lt, kt_le, kt_eq, kt_c0, kt_c1, kt_c2, kt_c3, kt_c4, kt_c8, kt_c9, kt_cm1, kt_c81, kt_c40, kt_c7, kt_c5, kt_c6, kt_c512, kt_c10, kt_c10000] at d_7
    refine lv_iconst (v := 1) hx hb dX11_sideOf_10 (by decide) ?_
    refine lv_goto (tgt := 15) hx hb dX11_sideOf_11 (by decide) ?_
    exact kt_ri () hx hb hr hlk hS dX11_sideOf_15 hP hD (by show 0 ≤ (1 : Int32).toInt ∧ (1 : Int32).toInt ≤ 1; decide)

theorem iw_X11_takes_X11 : ∀ w ∈ wsX110, w ∈ wsX11_takes := fun _ h => kt_wp_X11_takes__X110 h
set_option maxHeartbeats 4000000 in
set_option maxRecDepth 100000 in
theorem c_X11_takes (l : Launch) (D : va_G) (cI cZ cB : ClassId) (sz : Nat) (mx : Nat) (ms : Nat) (mk : Nat) (ma : Nat) (mo : Nat) (mg : Nat) (mm : Nat) (mt : Nat) (mn : Nat) (me : Nat) (mq : Nat) (mwo : Nat) (md : Nat) (mf : Nat) (mr : Nat) (ml : Int32) (mw : Int32) (mgl : Int32) (mhd : Int32) (mre : Int32) (mag : Int32) (mkt : Int32) (mho : Int32) (mpc : Int32) (msd : Int32) (mki : Int32) (mdn : Int32) (mun : Int32) (mtk : Int32) (msv : Int32) (fk : Nat → Int32) (p1 : Int32) (hp1 : 0 ≤ p1.toInt ∧ p1.toInt ≤ 39) : kt_Mi l yX11_takes wsX11_takes { frames := 0, cells := 0, slots := 0, locals := 0 } D (kt_ty cI cZ cB) [.ref mx, .int p1] sz [(mx, .inr (11, [.int ml, .int mw, .ref ms, .int mgl, .int mhd, .int mre, .int mag, .int mkt, .int mho, .int mpc, .int msd, .int mki, .ref mk, .ref ma, .ref mo, .ref mg, .ref mm, .ref mt, .int mdn, .int mun, .ref mn, .int mtk, .ref me, .ref mq, .int msv, .ref mwo, .ref md, .ref mf, .ref mr])), (mk, .inl (cI, 40, .inl fk))] (fun (r : Int32) (u : Unit) => 0 ≤ r.toInt ∧ r.toInt ≤ 1) (fun (u : Unit) => [(mx, .inr (11, [.int ml, .int mw, .ref ms, .int mgl, .int mhd, .int mre, .int mag, .int mkt, .int mho, .int mpc, .int msd, .int mki, .ref mk, .ref ma, .ref mo, .ref mg, .ref mm, .ref mt, .int mdn, .int mun, .ref mn, .int mtk, .ref me, .ref mq, .int msv, .ref mwo, .ref md, .ref mf, .ref mr])), (mk, .inl (cI, 40, .inl fk))]) 0 0 := by
  refine kt_Mi.of (cc := cX11_takes) (maxL := 2) (ret := some .boolean) (by decide) rfl (Nat.le_of_ble_eq_true rfl) ?_
  intro p e s m below meth c A ls H hAt hP hD hS hl
  obtain ⟨hx, hb, hr, hml, hown, hts, hN, hK, hlk, hnm, hA⟩ := hAt
  have hl : lv_has ls 2 [(0, .ref mx), (1, .int p1)] := hl
  have hown : s.vm.findClass RX11 = some m.cls := hown
  refine lv_aload_n hx hb dX11_takes_0 rfl (lv_at hl 0 rfl) ?_
  refine va_get (D := D) (ci := 11) (C := RX11) (T := TX11) (N := 29) hx hb hts iw_X11_takes_X11 hown hK hP 0 rfl rfl 12 (by decide) (hts (.fieldLink RX11 27 "KingTableModel" "kind" "[I") (List.mem_cons_of_mem _ (List.mem_append_left _ (List.Mem.head _)))) (fun _ h9 => h9) rfl dX11_takes_1 ?_
  refine lv_iload_n hx hb dX11_takes_4 rfl (lv_at hl 1 rfl) ?_
  have hi_1 : vp_in p1 40 := by exact kt_in (by omega) (by omega)
  refine va_iald hx hb hK hP 1 0 rfl rfl hi_1 dX11_takes_5 ?_
  refine lv_topi (fun a_5 ea_5 => ?_)
  refine lv_iconst (v := 2) hx hb dX11_takes_6 (by decide) ?_
  refine lv_icmp_ne (tgt := 17) hx hb dX11_takes_7 (by decide) (fun c_7 => ?_) (fun c_7 => ?_)
  · have d_7 := c_7
    simp only [kt_lt, kt_le, kt_eq, kt_c0, kt_c1, kt_c2, kt_c3, kt_c4, kt_c8, kt_c9, kt_cm1, kt_c81, kt_c40, kt_c7, kt_c5, kt_c6, kt_c512, kt_c10, kt_c10000] at d_7
    refine lv_iconst (v := 1) hx hb dX11_takes_17 (by decide) ?_
    refine lv_goto (tgt := 22) hx hb dX11_takes_18 (by decide) ?_
    exact kt_rz () hx hb hr hlk hS dX11_takes_22 hP hD (by show 0 ≤ (1 : Int32).toInt ∧ (1 : Int32).toInt ≤ 1; decide) rfl
  · have d_7 := c_7
    simp only [kt_lt, kt_le, kt_eq, kt_c0, kt_c1, kt_c2, kt_c3, kt_c4, kt_c8, kt_c9, kt_cm1, kt_c81, kt_c40, kt_c7, kt_c5, kt_c6, kt_c512, kt_c10, kt_c10000] at d_7
    refine lv_aload_n hx hb dX11_takes_10 rfl (lv_at hl 0 rfl) ?_
    refine va_get (D := D) (ci := 11) (C := RX11) (T := TX11) (N := 29) hx hb hts iw_X11_takes_X11 hown hK hP 0 rfl rfl 7 (by decide) (hts (.fieldLink RX11 23 "KingTableModel" "kingTakes" "Z") (List.mem_cons_of_mem _ (List.mem_append_left _ (List.mem_cons_of_mem _ (List.Mem.head _))))) (fun _ h9 => h9) rfl dX11_takes_11 ?_
    refine lv_if_eq (tgt := 21) hx hb dX11_takes_14 (by decide) (fun c_14 => ?_) (fun c_14 => ?_)
    · have d_14 := c_14
      simp only [kt_lt, kt_le, kt_eq, kt_c0, kt_c1, kt_c2, kt_c3, kt_c4, kt_c8, kt_c9, kt_cm1, kt_c81, kt_c40, kt_c7, kt_c5, kt_c6, kt_c512, kt_c10, kt_c10000] at d_14
      refine lv_iconst (v := 0) hx hb dX11_takes_21 (by decide) ?_
      exact kt_rz () hx hb hr hlk hS dX11_takes_22 hP hD (by show 0 ≤ (0 : Int32).toInt ∧ (0 : Int32).toInt ≤ 1; decide) rfl
    · have d_14 := c_14
      simp only [kt_lt, kt_le, kt_eq, kt_c0, kt_c1, kt_c2, kt_c3, kt_c4, kt_c8, kt_c9, kt_cm1, kt_c81, kt_c40, kt_c7, kt_c5, kt_c6, kt_c512, kt_c10, kt_c10000] at d_14
      refine lv_iconst (v := 1) hx hb dX11_takes_17 (by decide) ?_
      refine lv_goto (tgt := 22) hx hb dX11_takes_18 (by decide) ?_
      exact kt_rz () hx hb hr hlk hS dX11_takes_22 hP hD (by show 0 ≤ (1 : Int32).toInt ∧ (1 : Int32).toInt ≤ 1; decide) rfl

theorem iw_X11_bears_X11 : ∀ w ∈ wsX110, w ∈ wsX11_bears := fun _ h => kt_wp_X11_bears__X110 h
set_option maxHeartbeats 4000000 in
set_option maxRecDepth 100000 in
theorem c_X11_bears (l : Launch) (D : va_G) (cI cZ cB : ClassId) (sz : Nat) (mx : Nat) (ms : Nat) (mk : Nat) (ma : Nat) (mo : Nat) (mg : Nat) (mm : Nat) (mt : Nat) (mn : Nat) (me : Nat) (mq : Nat) (mwo : Nat) (md : Nat) (mf : Nat) (mr : Nat) (ml : Int32) (mw : Int32) (mgl : Int32) (mhd : Int32) (mre : Int32) (mag : Int32) (mkt : Int32) (mho : Int32) (mpc : Int32) (msd : Int32) (mki : Int32) (mdn : Int32) (mun : Int32) (mtk : Int32) (msv : Int32) (fr : Nat → Int32) (fk : Nat → Int32) (p1 : Int32) (p2 : Int32) (hp1 : 0 ≤ p1.toInt ∧ p1.toInt ≤ 80) (hp2 : 0 ≤ p2.toInt ∧ p2.toInt ≤ 39) : kt_Mi l yX11_bears wsX11_bears { frames := 0, cells := 0, slots := 0, locals := 0 } D (kt_ty cI cZ cB) [.ref mx, .int p1, .int p2] sz [(mx, .inr (11, [.int ml, .int mw, .ref ms, .int mgl, .int mhd, .int mre, .int mag, .int mkt, .int mho, .int mpc, .int msd, .int mki, .ref mk, .ref ma, .ref mo, .ref mg, .ref mm, .ref mt, .int mdn, .int mun, .ref mn, .int mtk, .ref me, .ref mq, .int msv, .ref mwo, .ref md, .ref mf, .ref mr])), (mg, .inl (cI, 81, .inl fr)), (mk, .inl (cI, 40, .inl fk))] (fun (r : Int32) (u : Unit) => 0 ≤ r.toInt ∧ r.toInt ≤ 1) (fun (u : Unit) => [(mx, .inr (11, [.int ml, .int mw, .ref ms, .int mgl, .int mhd, .int mre, .int mag, .int mkt, .int mho, .int mpc, .int msd, .int mki, .ref mk, .ref ma, .ref mo, .ref mg, .ref mm, .ref mt, .int mdn, .int mun, .ref mn, .int mtk, .ref me, .ref mq, .int msv, .ref mwo, .ref md, .ref mf, .ref mr])), (mg, .inl (cI, 81, .inl fr)), (mk, .inl (cI, 40, .inl fk))]) 0 0 := by
  refine kt_Mi.of (cc := cX11_bears) (maxL := 3) (ret := some .boolean) (by decide) rfl (Nat.le_of_ble_eq_true rfl) ?_
  intro p e s m below meth c A ls H hAt hP hD hS hl
  obtain ⟨hx, hb, hr, hml, hown, hts, hN, hK, hlk, hnm, hA⟩ := hAt
  have hl : lv_has ls 3 [(0, .ref mx), (1, .int p1), (2, .int p2)] := hl
  have hown : s.vm.findClass RX11 = some m.cls := hown
  refine lv_aload_n hx hb dX11_bears_0 rfl (lv_at hl 0 rfl) ?_
  refine va_get (D := D) (ci := 11) (C := RX11) (T := TX11) (N := 29) hx hb hts iw_X11_bears_X11 hown hK hP 0 rfl rfl 15 (by decide) (hts (.fieldLink RX11 36 "KingTableModel" "ground" "[I") (List.mem_cons_of_mem _ (List.mem_append_left _ (List.Mem.head _)))) (fun _ h9 => h9) rfl dX11_bears_1 ?_
  refine lv_iload_n hx hb dX11_bears_4 rfl (lv_at hl 1 rfl) ?_
  have hi_1 : vp_in p1 81 := by exact kt_in (by omega) (by omega)
  refine va_iald hx hb hK hP 1 0 rfl rfl hi_1 dX11_bears_5 ?_
  refine lv_topi (fun a_5 ea_5 => ?_)
  refine lv_if_eq (tgt := 19) hx hb dX11_bears_6 (by decide) (fun c_6 => ?_) (fun c_6 => ?_)
  · have d_6 := c_6
    simp only [kt_lt, kt_le, kt_eq, kt_c0, kt_c1, kt_c2, kt_c3, kt_c4, kt_c8, kt_c9, kt_cm1, kt_c81, kt_c40, kt_c7, kt_c5, kt_c6, kt_c512, kt_c10, kt_c10000] at d_6
    refine lv_iconst (v := 1) hx hb dX11_bears_19 (by decide) ?_
    refine lv_goto (tgt := 24) hx hb dX11_bears_20 (by decide) ?_
    exact kt_rz () hx hb hr hlk hS dX11_bears_24 hP hD (by show 0 ≤ (1 : Int32).toInt ∧ (1 : Int32).toInt ≤ 1; decide) rfl
  · have d_6 := c_6
    simp only [kt_lt, kt_le, kt_eq, kt_c0, kt_c1, kt_c2, kt_c3, kt_c4, kt_c8, kt_c9, kt_cm1, kt_c81, kt_c40, kt_c7, kt_c5, kt_c6, kt_c512, kt_c10, kt_c10000] at d_6
    refine lv_aload_n hx hb dX11_bears_9 rfl (lv_at hl 0 rfl) ?_
    refine va_get (D := D) (ci := 11) (C := RX11) (T := TX11) (N := 29) hx hb hts iw_X11_bears_X11 hown hK hP 0 rfl rfl 12 (by decide) (hts (.fieldLink RX11 27 "KingTableModel" "kind" "[I") (List.mem_cons_of_mem _ (List.mem_append_left _ (List.mem_cons_of_mem _ (List.Mem.head _))))) (fun _ h9 => h9) rfl dX11_bears_10 ?_
    refine lv_iload_n hx hb dX11_bears_13 rfl (lv_at hl 2 rfl) ?_
    have hi_2 : vp_in p2 40 := by exact kt_in (by omega) (by omega)
    refine va_iald hx hb hK hP 2 0 rfl rfl hi_2 dX11_bears_14 ?_
    refine lv_topi (fun a_14 ea_14 => ?_)
    refine lv_iconst (v := 2) hx hb dX11_bears_15 (by decide) ?_
    refine lv_icmp_ne (tgt := 23) hx hb dX11_bears_16 (by decide) (fun c_16 => ?_) (fun c_16 => ?_)
    · have d_16 := c_16
      simp only [kt_lt, kt_le, kt_eq, kt_c0, kt_c1, kt_c2, kt_c3, kt_c4, kt_c8, kt_c9, kt_cm1, kt_c81, kt_c40, kt_c7, kt_c5, kt_c6, kt_c512, kt_c10, kt_c10000] at d_16
      refine lv_iconst (v := 0) hx hb dX11_bears_23 (by decide) ?_
      exact kt_rz () hx hb hr hlk hS dX11_bears_24 hP hD (by show 0 ≤ (0 : Int32).toInt ∧ (0 : Int32).toInt ≤ 1; decide) rfl
    · have d_16 := c_16
      simp only [kt_lt, kt_le, kt_eq, kt_c0, kt_c1, kt_c2, kt_c3, kt_c4, kt_c8, kt_c9, kt_cm1, kt_c81, kt_c40, kt_c7, kt_c5, kt_c6, kt_c512, kt_c10, kt_c10000] at d_16
      refine lv_iconst (v := 1) hx hb dX11_bears_19 (by decide) ?_
      refine lv_goto (tgt := 24) hx hb dX11_bears_20 (by decide) ?_
      exact kt_rz () hx hb hr hlk hS dX11_bears_24 hP hD (by show 0 ≤ (1 : Int32).toInt ∧ (1 : Int32).toInt ≤ 1; decide) rfl

theorem iw_X11_isGoal_X11 : ∀ w ∈ wsX110, w ∈ wsX11_isGoal := fun _ h => kt_wp_X11_isGoal__X110 h
set_option maxHeartbeats 4000000 in
set_option maxRecDepth 100000 in
theorem c_X11_isGoal (l : Launch) (D : va_G) (cI cZ cB : ClassId) (sz : Nat) (mx : Nat) (ms : Nat) (mk : Nat) (ma : Nat) (mo : Nat) (mg : Nat) (mm : Nat) (mt : Nat) (mn : Nat) (me : Nat) (mq : Nat) (mwo : Nat) (md : Nat) (mf : Nat) (mr : Nat) (ml : Int32) (mw : Int32) (mgl : Int32) (mhd : Int32) (mre : Int32) (mag : Int32) (mkt : Int32) (mho : Int32) (mpc : Int32) (msd : Int32) (mki : Int32) (mdn : Int32) (mun : Int32) (mtk : Int32) (msv : Int32) (fr : Nat → Int32) (p1 : Int32) (hml_ : 2 ≤ ml.toInt ∧ ml.toInt ≤ 9) (hmw : 2 ≤ mw.toInt ∧ mw.toInt ≤ 9) (hp1 : 0 ≤ p1.toInt ∧ p1.toInt ≤ 80) : kt_Mi l yX11_isGoal wsX11_isGoal { frames := 1, cells := 0, slots := 0, locals := 20 } D (kt_ty cI cZ cB) [.ref mx, .int p1] sz [(mx, .inr (11, [.int ml, .int mw, .ref ms, .int mgl, .int mhd, .int mre, .int mag, .int mkt, .int mho, .int mpc, .int msd, .int mki, .ref mk, .ref ma, .ref mo, .ref mg, .ref mm, .ref mt, .int mdn, .int mun, .ref mn, .int mtk, .ref me, .ref mq, .int msv, .ref mwo, .ref md, .ref mf, .ref mr])), (mg, .inl (cI, 81, .inl fr))] (fun (r : Int32) (u : Unit) => 0 ≤ r.toInt ∧ r.toInt ≤ 1) (fun (u : Unit) => [(mx, .inr (11, [.int ml, .int mw, .ref ms, .int mgl, .int mhd, .int mre, .int mag, .int mkt, .int mho, .int mpc, .int msd, .int mki, .ref mk, .ref ma, .ref mo, .ref mg, .ref mm, .ref mt, .int mdn, .int mun, .ref mn, .int mtk, .ref me, .ref mq, .int msv, .ref mwo, .ref md, .ref mf, .ref mr])), (mg, .inl (cI, 81, .inl fr))]) 0 0 := by
  refine kt_Mi.of (cc := cX11_isGoal) (maxL := 2) (ret := some .boolean) (by decide) rfl (Nat.le_of_ble_eq_true rfl) ?_
  intro p e s m below meth c A ls H hAt hP hD hS hl
  obtain ⟨hx, hb, hr, hml, hown, hts, hN, hK, hlk, hnm, hA⟩ := hAt
  have hl : lv_has ls 2 [(0, .ref mx), (1, .int p1)] := hl
  have hown : s.vm.findClass RX11 = some m.cls := hown
  refine lv_aload_n hx hb dX11_isGoal_0 rfl (lv_at hl 0 rfl) ?_
  refine va_get (D := D) (ci := 11) (C := RX11) (T := TX11) (N := 29) hx hb hts iw_X11_isGoal_X11 hown hK hP 0 rfl rfl 3 (by decide) (hts (.fieldLink RX11 79 "KingTableModel" "goal" "I") (List.mem_cons_of_mem _ (List.mem_append_left _ (List.Mem.head _)))) (fun _ h9 => h9) rfl dX11_isGoal_1 ?_
  refine lv_if_ne (tgt := 24) hx hb dX11_isGoal_4 (by decide) (fun c_4 => ?_) (fun c_4 => ?_)
  · have d_4 := c_4
    simp only [kt_lt, kt_le, kt_eq, kt_c0, kt_c1, kt_c2, kt_c3, kt_c4, kt_c8, kt_c9, kt_cm1, kt_c81, kt_c40, kt_c7, kt_c5, kt_c6, kt_c512, kt_c10, kt_c10000] at d_4
    refine lv_iload_n hx hb dX11_isGoal_24 rfl (lv_at hl 1 rfl) ?_
    refine lv_aload_n hx hb dX11_isGoal_25 rfl (lv_at hl 0 rfl) ?_
    refine va_get (D := D) (ci := 11) (C := RX11) (T := TX11) (N := 29) hx hb hts iw_X11_isGoal_X11 hown hK hP 0 rfl rfl 1 (by decide) (hts (.fieldLink RX11 13 "KingTableModel" "wide" "I") (List.mem_cons_of_mem _ (List.mem_append_left _ (List.mem_cons_of_mem _ (List.mem_cons_of_mem _ (List.Mem.head _)))))) (fun _ h9 => h9) rfl dX11_isGoal_26 ?_
    refine lv_icmp_lt (tgt := 69) hx hb dX11_isGoal_29 (by decide) (fun c_29 => ?_) (fun c_29 => ?_)
    · have d_29 := c_29
      simp only [kt_lt, kt_le, kt_eq, kt_c0, kt_c1, kt_c2, kt_c3, kt_c4, kt_c8, kt_c9, kt_cm1, kt_c81, kt_c40, kt_c7, kt_c5, kt_c6, kt_c512, kt_c10, kt_c10000] at d_29
      refine lv_iconst (v := 1) hx hb dX11_isGoal_69 (by decide) ?_
      refine lv_goto (tgt := 74) hx hb dX11_isGoal_70 (by decide) ?_
      exact kt_rz () hx hb hr hlk hS dX11_isGoal_74 hP hD (by show 0 ≤ (1 : Int32).toInt ∧ (1 : Int32).toInt ≤ 1; decide) rfl
    · have d_29 := c_29
      simp only [kt_lt, kt_le, kt_eq, kt_c0, kt_c1, kt_c2, kt_c3, kt_c4, kt_c8, kt_c9, kt_cm1, kt_c81, kt_c40, kt_c7, kt_c5, kt_c6, kt_c512, kt_c10, kt_c10000] at d_29
      refine lv_iload_n hx hb dX11_isGoal_32 rfl (lv_at hl 1 rfl) ?_
      refine lv_aload_n hx hb dX11_isGoal_33 rfl (lv_at hl 0 rfl) ?_
      refine kt_pi (wc := [(mx, .inr (11, [.int ml, .int mw, .ref ms, .int mgl, .int mhd, .int mre, .int mag, .int mkt, .int mho, .int mpc, .int msd, .int mki, .ref mk, .ref ma, .ref mo, .ref mg, .ref mm, .ref mt, .int mdn, .int mun, .ref mn, .int mtk, .ref me, .ref mq, .int msv, .ref mwo, .ref md, .ref mf, .ref mr]))]) [0] hP hD hS hA rfl (by decide) (fun hPc hDc => va_runV (As := []) (rest := [.int p1]) ⟨hx, hb, hml, hown, hts⟩ (c_X11_fields l D cI cZ cB H.size mx ms mk ma mo mg mm mt mn me mq mwo md mf mr ml mw mgl mhd mre mag mkt mho mpc msd mki mdn mun mtk msv (by first | assumption | omega | rfl | decide) (by first | assumption | omega | rfl | decide)) (cwV 0 hts gX11_isGoal_X11_fields rfl rfl rfl (by decide +kernel) ⟨Nat.le_of_ble_eq_true rfl, Nat.le_of_ble_eq_true rfl⟩) (kt_preV hN hK hPc hDc 0 (ci := 11) (q := (RX11, TX11, 29)) rfl rfl) rfl rfl hl.1 rfl (lv_room (Nat.le_of_ble_eq_true rfl)) dX11_isGoal_34 ⟨Nat.le_of_ble_eq_true rfl, Nat.le_of_ble_eq_true rfl⟩) (fun r_34 _ H locs hw_34 hP hS => ?_)
      refine lv_aload_n hx hb dX11_isGoal_37 rfl (lv_at hl 0 rfl) ?_
      refine va_get (D := D) (ci := 11) (C := RX11) (T := TX11) (N := 29) hx hb hts iw_X11_isGoal_X11 hown hK hP 0 rfl rfl 1 (by decide) (hts (.fieldLink RX11 13 "KingTableModel" "wide" "I") (List.mem_cons_of_mem _ (List.mem_append_left _ (List.mem_cons_of_mem _ (List.mem_cons_of_mem _ (List.Mem.head _)))))) (fun _ h9 => h9) rfl dX11_isGoal_38 ?_
      refine lv_isub hx hb dX11_isGoal_41 ?_
      refine lv_topi (fun t_41 et_41 => ?_)
      obtain ⟨k_41, hk_41, hm_41, hM_41⟩ := kt_subk et_41
      refine lv_icmp_ge (tgt := 69) hx hb dX11_isGoal_42 (by decide) (fun c_42 => ?_) (fun c_42 => ?_)
      · have d_42 := c_42
        simp only [kt_lt, kt_le, kt_eq, kt_c0, kt_c1, kt_c2, kt_c3, kt_c4, kt_c8, kt_c9, kt_cm1, kt_c81, kt_c40, kt_c7, kt_c5, kt_c6, kt_c512, kt_c10, kt_c10000] at d_42
        refine lv_iconst (v := 1) hx hb dX11_isGoal_69 (by decide) ?_
        refine lv_goto (tgt := 74) hx hb dX11_isGoal_70 (by decide) ?_
        exact kt_rz () hx hb hr hlk hS dX11_isGoal_74 hP hD (by show 0 ≤ (1 : Int32).toInt ∧ (1 : Int32).toInt ≤ 1; decide) rfl
      · have d_42 := c_42
        simp only [kt_lt, kt_le, kt_eq, kt_c0, kt_c1, kt_c2, kt_c3, kt_c4, kt_c8, kt_c9, kt_cm1, kt_c81, kt_c40, kt_c7, kt_c5, kt_c6, kt_c512, kt_c10, kt_c10000] at d_42
        refine lv_iload_n hx hb dX11_isGoal_45 rfl (lv_at hl 1 rfl) ?_
        refine lv_aload_n hx hb dX11_isGoal_46 rfl (lv_at hl 0 rfl) ?_
        refine va_get (D := D) (ci := 11) (C := RX11) (T := TX11) (N := 29) hx hb hts iw_X11_isGoal_X11 hown hK hP 0 rfl rfl 1 (by decide) (hts (.fieldLink RX11 13 "KingTableModel" "wide" "I") (List.mem_cons_of_mem _ (List.mem_append_left _ (List.mem_cons_of_mem _ (List.mem_cons_of_mem _ (List.Mem.head _)))))) (fun _ h9 => h9) rfl dX11_isGoal_47 ?_
        refine lv_irem hx hb dX11_isGoal_50 (by intro h; rw [h] at hmw; exact absurd hmw (by decide)) ?_
        refine lv_if_eq (tgt := 69) hx hb dX11_isGoal_51 (by decide) (fun c_51 => ?_) (fun c_51 => ?_)
        · have d_51 := c_51
          simp only [kt_lt, kt_le, kt_eq, kt_c0, kt_c1, kt_c2, kt_c3, kt_c4, kt_c8, kt_c9, kt_cm1, kt_c81, kt_c40, kt_c7, kt_c5, kt_c6, kt_c512, kt_c10, kt_c10000] at d_51
          refine lv_iconst (v := 1) hx hb dX11_isGoal_69 (by decide) ?_
          refine lv_goto (tgt := 74) hx hb dX11_isGoal_70 (by decide) ?_
          exact kt_rz () hx hb hr hlk hS dX11_isGoal_74 hP hD (by show 0 ≤ (1 : Int32).toInt ∧ (1 : Int32).toInt ≤ 1; decide) rfl
        · have d_51 := c_51
          simp only [kt_lt, kt_le, kt_eq, kt_c0, kt_c1, kt_c2, kt_c3, kt_c4, kt_c8, kt_c9, kt_cm1, kt_c81, kt_c40, kt_c7, kt_c5, kt_c6, kt_c512, kt_c10, kt_c10000] at d_51
          refine lv_iload_n hx hb dX11_isGoal_54 rfl (lv_at hl 1 rfl) ?_
          refine lv_aload_n hx hb dX11_isGoal_55 rfl (lv_at hl 0 rfl) ?_
          refine va_get (D := D) (ci := 11) (C := RX11) (T := TX11) (N := 29) hx hb hts iw_X11_isGoal_X11 hown hK hP 0 rfl rfl 1 (by decide) (hts (.fieldLink RX11 13 "KingTableModel" "wide" "I") (List.mem_cons_of_mem _ (List.mem_append_left _ (List.mem_cons_of_mem _ (List.mem_cons_of_mem _ (List.Mem.head _)))))) (fun _ h9 => h9) rfl dX11_isGoal_56 ?_
          refine lv_irem hx hb dX11_isGoal_59 (by intro h; rw [h] at hmw; exact absurd hmw (by decide)) ?_
          refine lv_aload_n hx hb dX11_isGoal_60 rfl (lv_at hl 0 rfl) ?_
          refine va_get (D := D) (ci := 11) (C := RX11) (T := TX11) (N := 29) hx hb hts iw_X11_isGoal_X11 hown hK hP 0 rfl rfl 1 (by decide) (hts (.fieldLink RX11 13 "KingTableModel" "wide" "I") (List.mem_cons_of_mem _ (List.mem_append_left _ (List.mem_cons_of_mem _ (List.mem_cons_of_mem _ (List.Mem.head _)))))) (fun _ h9 => h9) rfl dX11_isGoal_61 ?_
          refine lv_iconst (v := 1) hx hb dX11_isGoal_64 (by decide) ?_
          refine lv_isub hx hb dX11_isGoal_65 ?_
          refine lv_topi (fun t_65 et_65 => ?_)
          obtain ⟨k_65, hk_65, hm_65, hM_65⟩ := kt_subk et_65
          try simp only [kt_c0, kt_c1, kt_c2, kt_c3, kt_c4, kt_c8, kt_c9, kt_cm1, kt_c81, kt_c40, kt_c7, kt_c5, kt_c6, kt_c512, kt_c10, kt_c10000] at hk_65
          refine lv_icmp_ne (tgt := 73) hx hb dX11_isGoal_66 (by decide) (fun c_66 => ?_) (fun c_66 => ?_)
          · have d_66 := c_66
            simp only [kt_lt, kt_le, kt_eq, kt_c0, kt_c1, kt_c2, kt_c3, kt_c4, kt_c8, kt_c9, kt_cm1, kt_c81, kt_c40, kt_c7, kt_c5, kt_c6, kt_c512, kt_c10, kt_c10000] at d_66
            refine lv_iconst (v := 0) hx hb dX11_isGoal_73 (by decide) ?_
            exact kt_rz () hx hb hr hlk hS dX11_isGoal_74 hP hD (by show 0 ≤ (0 : Int32).toInt ∧ (0 : Int32).toInt ≤ 1; decide) rfl
          · have d_66 := c_66
            simp only [kt_lt, kt_le, kt_eq, kt_c0, kt_c1, kt_c2, kt_c3, kt_c4, kt_c8, kt_c9, kt_cm1, kt_c81, kt_c40, kt_c7, kt_c5, kt_c6, kt_c512, kt_c10, kt_c10000] at d_66
            refine lv_iconst (v := 1) hx hb dX11_isGoal_69 (by decide) ?_
            refine lv_goto (tgt := 74) hx hb dX11_isGoal_70 (by decide) ?_
            exact kt_rz () hx hb hr hlk hS dX11_isGoal_74 hP hD (by show 0 ≤ (1 : Int32).toInt ∧ (1 : Int32).toInt ≤ 1; decide) rfl
  · have d_4 := c_4
    simp only [kt_lt, kt_le, kt_eq, kt_c0, kt_c1, kt_c2, kt_c3, kt_c4, kt_c8, kt_c9, kt_cm1, kt_c81, kt_c40, kt_c7, kt_c5, kt_c6, kt_c512, kt_c10, kt_c10000] at d_4
    refine lv_aload_n hx hb dX11_isGoal_7 rfl (lv_at hl 0 rfl) ?_
    refine va_get (D := D) (ci := 11) (C := RX11) (T := TX11) (N := 29) hx hb hts iw_X11_isGoal_X11 hown hK hP 0 rfl rfl 15 (by decide) (hts (.fieldLink RX11 36 "KingTableModel" "ground" "[I") (List.mem_cons_of_mem _ (List.mem_append_left _ (List.mem_cons_of_mem _ (List.Mem.head _))))) (fun _ h9 => h9) rfl dX11_isGoal_8 ?_
    refine lv_iload_n hx hb dX11_isGoal_11 rfl (lv_at hl 1 rfl) ?_
    have hi_1 : vp_in p1 81 := by exact kt_in (by omega) (by omega)
    refine va_iald hx hb hK hP 1 0 rfl rfl hi_1 dX11_isGoal_12 ?_
    refine lv_topi (fun a_12 ea_12 => ?_)
    refine lv_bipush (v := 6) hx hb dX11_isGoal_13 (by decide) ?_
    refine lv_icmp_ne (tgt := 22) hx hb dX11_isGoal_15 (by decide) (fun c_15 => ?_) (fun c_15 => ?_)
    · have d_15 := c_15
      simp only [kt_lt, kt_le, kt_eq, kt_c0, kt_c1, kt_c2, kt_c3, kt_c4, kt_c8, kt_c9, kt_cm1, kt_c81, kt_c40, kt_c7, kt_c5, kt_c6, kt_c512, kt_c10, kt_c10000] at d_15
      refine lv_iconst (v := 0) hx hb dX11_isGoal_22 (by decide) ?_
      exact kt_rz () hx hb hr hlk hS dX11_isGoal_23 hP hD (by show 0 ≤ (0 : Int32).toInt ∧ (0 : Int32).toInt ≤ 1; decide) rfl
    · have d_15 := c_15
      simp only [kt_lt, kt_le, kt_eq, kt_c0, kt_c1, kt_c2, kt_c3, kt_c4, kt_c8, kt_c9, kt_cm1, kt_c81, kt_c40, kt_c7, kt_c5, kt_c6, kt_c512, kt_c10, kt_c10000] at d_15
      refine lv_iconst (v := 1) hx hb dX11_isGoal_18 (by decide) ?_
      refine lv_goto (tgt := 23) hx hb dX11_isGoal_19 (by decide) ?_
      exact kt_rz () hx hb hr hlk hS dX11_isGoal_23 hP hD (by show 0 ≤ (1 : Int32).toInt ∧ (1 : Int32).toInt ≤ 1; decide) rfl

theorem iw_X11_along_X11 : ∀ w ∈ wsX110, w ∈ wsX11_along := fun _ h => kt_wp_X11_along__X110 h
set_option maxHeartbeats 4000000 in
set_option maxRecDepth 100000 in
theorem c_X11_along (l : Launch) (D : va_G) (cI cZ cB : ClassId) (sz : Nat) (mx : Nat) (ms : Nat) (mk : Nat) (ma : Nat) (mo : Nat) (mg : Nat) (mm : Nat) (mt : Nat) (mn : Nat) (me : Nat) (mq : Nat) (mwo : Nat) (md : Nat) (mf : Nat) (mr : Nat) (ml : Int32) (mw : Int32) (mgl : Int32) (mhd : Int32) (mre : Int32) (mag : Int32) (mkt : Int32) (mho : Int32) (mpc : Int32) (msd : Int32) (mki : Int32) (mdn : Int32) (mun : Int32) (mtk : Int32) (msv : Int32) (p1 : Int32) (p2 : Int32) (p3 : Int32) (hml_ : 2 ≤ ml.toInt ∧ ml.toInt ≤ 9) (hmw : 2 ≤ mw.toInt ∧ mw.toInt ≤ 9) (hp1 : 0 ≤ p1.toInt ∧ p1.toInt < ml.toInt * mw.toInt) (hp3 : 1 ≤ p3.toInt) : kt_Mi l yX11_along wsX11_along { frames := 0, cells := 0, slots := 0, locals := 0 } D (kt_ty cI cZ cB) [.ref mx, .int p1, .int p2, .int p3] sz [(mx, .inr (11, [.int ml, .int mw, .ref ms, .int mgl, .int mhd, .int mre, .int mag, .int mkt, .int mho, .int mpc, .int msd, .int mki, .ref mk, .ref ma, .ref mo, .ref mg, .ref mm, .ref mt, .int mdn, .int mun, .ref mn, .int mtk, .ref me, .ref mq, .int msv, .ref mwo, .ref md, .ref mf, .ref mr]))] (fun (r : Int32) (u : Unit) => (p3.toInt ≤ kt_rom p1.toInt mw.toInt ml.toInt p2.toInt → 0 ≤ r.toInt ∧ r.toInt < ml.toInt * mw.toInt ∧ r.toInt ≤ 80) ∧ (¬ p3.toInt ≤ kt_rom p1.toInt mw.toInt ml.toInt p2.toInt → r.toInt = -1)) (fun (u : Unit) => [(mx, .inr (11, [.int ml, .int mw, .ref ms, .int mgl, .int mhd, .int mre, .int mag, .int mkt, .int mho, .int mpc, .int msd, .int mki, .ref mk, .ref ma, .ref mo, .ref mg, .ref mm, .ref mt, .int mdn, .int mun, .ref mn, .int mtk, .ref me, .ref mq, .int msv, .ref mwo, .ref md, .ref mf, .ref mr]))]) 0 0 := by
  refine kt_Mi.of (cc := cX11_along) (maxL := 7) (ret := some .int) (by decide) rfl (Nat.le_of_ble_eq_true rfl) ?_
  intro p e s m below meth c A ls H hAt hP hD hS hl
  obtain ⟨hx, hb, hr, hml, hown, hts, hN, hK, hlk, hnm, hA⟩ := hAt
  have hl : lv_has ls 7 [(0, .ref mx), (1, .int p1), (2, .int p2), (3, .int p3)] := hl
  have hown : s.vm.findClass RX11 = some m.cls := hown
  refine lv_iload_n hx hb dX11_along_0 rfl (lv_at hl 1 rfl) ?_
  refine lv_aload_n hx hb dX11_along_1 rfl (lv_at hl 0 rfl) ?_
  refine va_get (D := D) (ci := 11) (C := RX11) (T := TX11) (N := 29) hx hb hts iw_X11_along_X11 hown hK hP 0 rfl rfl 1 (by decide) (hts (.fieldLink RX11 13 "KingTableModel" "wide" "I") (List.mem_cons_of_mem _ (List.mem_append_left _ (List.Mem.head _)))) (fun _ h9 => h9) rfl dX11_along_2 ?_
  refine lv_idiv hx hb dX11_along_5 (by intro h; rw [h] at hmw; exact absurd hmw (by decide)) ?_
  refine lv_topi (fun t_5 et_5 => ?_)
  have hk_5 := kt_divk et_5 (by omega) (by omega)
  refine lv_istore (lv' := [(4, .int t_5), (0, .ref mx), (1, .int p1), (2, .int p2), (3, .int p3)]) hx hb dX11_along_6 hl (by decide) rfl (fun ls hl => ?_)
  refine lv_iload_n hx hb dX11_along_8 rfl (lv_at hl 2 rfl) ?_
  refine lv_aload_n hx hb dX11_along_9 rfl (lv_at hl 1 rfl) ?_
  refine va_get (D := D) (ci := 11) (C := RX11) (T := TX11) (N := 29) hx hb hts iw_X11_along_X11 hown hK hP 0 rfl rfl 1 (by decide) (hts (.fieldLink RX11 13 "KingTableModel" "wide" "I") (List.mem_cons_of_mem _ (List.mem_append_left _ (List.Mem.head _)))) (fun _ h9 => h9) rfl dX11_along_10 ?_
  refine lv_irem hx hb dX11_along_13 (by intro h; rw [h] at hmw; exact absurd hmw (by decide)) ?_
  refine lv_topi (fun t_13 et_13 => ?_)
  have hk_13 := kt_remk et_13 (by omega) (by omega)
  refine lv_istore (lv' := [(5, .int t_13), (4, .int t_5), (0, .ref mx), (1, .int p1), (2, .int p2), (3, .int p3)]) hx hb dX11_along_14 hl (by decide) rfl (fun ls hl => ?_)
  have hal := kt_alng hmw hml_ hp1 hp3
  obtain ⟨ha1, ha2, ha3, ha4, hb1, hb2, hb3, hb4, hb5, hb6⟩ := hal
  rw [← hk_5] at ha1 ha3 hb1 hb2
  rw [← hk_13] at ha2 ha4 hb3 hb4
  have hro := kt_rom_c p1.toInt mw.toInt ml.toInt p2.toInt
  rw [← hk_5, ← hk_13] at hro
  refine lv_iload_n hx hb dX11_along_16 rfl (lv_at hl 4 rfl) ?_
  refine lv_if_ne (tgt := 25) hx hb dX11_along_17 (by decide) (fun c_17 => ?_) (fun c_17 => ?_)
  · have d_17 := c_17
    simp only [kt_lt, kt_le, kt_eq, kt_c0, kt_c1, kt_c2, kt_c3, kt_c4, kt_c8, kt_c9, kt_cm1, kt_c81, kt_c40, kt_c7, kt_c5, kt_c6, kt_c512, kt_c10, kt_c10000] at d_17
    refine lv_iload_n hx hb dX11_along_25 rfl (lv_at hl 4 rfl) ?_
    refine lv_iconst (v := 1) hx hb dX11_along_26 (by decide) ?_
    refine lv_icmp_ne (tgt := 42) hx hb dX11_along_27 (by decide) (fun c_27 => ?_) (fun c_27 => ?_)
    · have d_27 := c_27
      simp only [kt_lt, kt_le, kt_eq, kt_c0, kt_c1, kt_c2, kt_c3, kt_c4, kt_c8, kt_c9, kt_cm1, kt_c81, kt_c40, kt_c7, kt_c5, kt_c6, kt_c512, kt_c10, kt_c10000] at d_27
      refine lv_iload_n hx hb dX11_along_42 rfl (lv_at hl 4 rfl) ?_
      refine lv_iconst (v := 2) hx hb dX11_along_43 (by decide) ?_
      refine lv_icmp_ne (tgt := 59) hx hb dX11_along_44 (by decide) (fun c_44 => ?_) (fun c_44 => ?_)
      · have d_44 := c_44
        simp only [kt_lt, kt_le, kt_eq, kt_c0, kt_c1, kt_c2, kt_c3, kt_c4, kt_c8, kt_c9, kt_cm1, kt_c81, kt_c40, kt_c7, kt_c5, kt_c6, kt_c512, kt_c10, kt_c10000] at d_44
        refine lv_iload hx hb dX11_along_59 (lv_at hl 0 rfl) ?_
        refine lv_istore (lv' := [(6, .int t_13), (5, .int t_13), (4, .int t_5), (0, .ref mx), (1, .int p1), (2, .int p2), (3, .int p3)]) hx hb dX11_along_61 hl (by decide) rfl (fun ls hl => ?_)
        refine lv_iload_n hx hb dX11_along_63 rfl (lv_at hl 6 rfl) ?_
        refine lv_iload hx hb dX11_along_64 (lv_at hl 0 rfl) ?_
        refine lv_icmp_le (tgt := 71) hx hb dX11_along_66 (by decide) (fun c_66 => ?_) (fun c_66 => ?_)
        · have d_66 := c_66
          simp only [kt_lt, kt_le, kt_eq, kt_c0, kt_c1, kt_c2, kt_c3, kt_c4, kt_c8, kt_c9, kt_cm1, kt_c81, kt_c40, kt_c7, kt_c5, kt_c6, kt_c512, kt_c10, kt_c10000] at d_66
          refine lv_iload_n hx hb dX11_along_71 rfl (lv_at hl 4 rfl) ?_
          refine lv_iload_n hx hb dX11_along_72 rfl (lv_at hl 6 rfl) ?_
          refine lv_iload_n hx hb dX11_along_73 rfl (lv_at hl 5 rfl) ?_
          refine lv_if_ne (tgt := 85) hx hb dX11_along_74 (by decide) (fun c_74 => ?_) (fun c_74 => ?_)
          · have d_74 := c_74
            simp only [kt_lt, kt_le, kt_eq, kt_c0, kt_c1, kt_c2, kt_c3, kt_c4, kt_c8, kt_c9, kt_cm1, kt_c81, kt_c40, kt_c7, kt_c5, kt_c6, kt_c512, kt_c10, kt_c10000] at d_74
            refine lv_iload_n hx hb dX11_along_85 rfl (lv_at hl 5 rfl) ?_
            refine lv_iconst (v := 1) hx hb dX11_along_86 (by decide) ?_
            refine lv_icmp_ne (tgt := 94) hx hb dX11_along_87 (by decide) (fun c_87 => ?_) (fun c_87 => ?_)
            · have d_87 := c_87
              simp only [kt_lt, kt_le, kt_eq, kt_c0, kt_c1, kt_c2, kt_c3, kt_c4, kt_c8, kt_c9, kt_cm1, kt_c81, kt_c40, kt_c7, kt_c5, kt_c6, kt_c512, kt_c10, kt_c10000] at d_87
              refine lv_iload_n hx hb dX11_along_94 rfl (lv_at hl 5 rfl) ?_
              refine lv_iconst (v := 2) hx hb dX11_along_95 (by decide) ?_
              refine lv_icmp_ne (tgt := 106) hx hb dX11_along_96 (by decide) (fun c_96 => ?_) (fun c_96 => ?_)
              · have d_96 := c_96
                simp only [kt_lt, kt_le, kt_eq, kt_c0, kt_c1, kt_c2, kt_c3, kt_c4, kt_c8, kt_c9, kt_cm1, kt_c81, kt_c40, kt_c7, kt_c5, kt_c6, kt_c512, kt_c10, kt_c10000] at d_96
                refine lv_iconst (v := (-1)) hx hb dX11_along_106 (by decide) ?_
                refine lv_imul hx hb dX11_along_107 ?_
                refine lv_topi (fun t_107 et_107 => ?_)
                obtain ⟨k_107, hk_107, hm_107, hM_107⟩ := kt_mulk (C := -1) et_107 (by decide)
                try simp only [kt_c0, kt_c1, kt_c2, kt_c3, kt_c4, kt_c8, kt_c9, kt_cm1, kt_c81, kt_c40, kt_c7, kt_c5, kt_c6, kt_c512, kt_c10, kt_c10000] at hk_107
                try have hm81 : p3.toInt * t_81.toInt = -(p3.toInt * mw.toInt) := by rw [show t_81.toInt = -mw.toInt by omega, Int.mul_neg]
                refine lv_iadd hx hb dX11_along_108 ?_
                refine lv_topi (fun t_108 et_108 => ?_)
                obtain ⟨k_108, hk_108, hm_108, hM_108⟩ := kt_addk et_108
                exact kt_ri () hx hb hr hlk hS dX11_along_109 hP hD (by show (p3.toInt ≤ kt_rom p1.toInt mw.toInt ml.toInt p2.toInt → 0 ≤ t_108.toInt ∧ t_108.toInt < ml.toInt * mw.toInt ∧ t_108.toInt ≤ 80) ∧ (¬ p3.toInt ≤ kt_rom p1.toInt mw.toInt ml.toInt p2.toInt → t_108.toInt = -1); first | omega | exact ⟨fun h => by exfalso; omega, fun _ => by decide⟩)
              · have d_96 := c_96
                simp only [kt_lt, kt_le, kt_eq, kt_c0, kt_c1, kt_c2, kt_c3, kt_c4, kt_c8, kt_c9, kt_cm1, kt_c81, kt_c40, kt_c7, kt_c5, kt_c6, kt_c512, kt_c10, kt_c10000] at d_96
                refine lv_aload_n hx hb dX11_along_99 rfl (lv_at hl 3 rfl) ?_
                refine va_get (D := D) (ci := 11) (C := RX11) (T := TX11) (N := 29) hx hb hts iw_X11_along_X11 hown hK hP 0 rfl rfl 1 (by decide) (hts (.fieldLink RX11 13 "KingTableModel" "wide" "I") (List.mem_cons_of_mem _ (List.mem_append_left _ (List.Mem.head _)))) (fun _ h9 => h9) rfl dX11_along_100 ?_
                refine lv_goto (tgt := 107) hx hb dX11_along_103 (by decide) ?_
                refine lv_imul hx hb dX11_along_107 ?_
                refine lv_topi (fun t_107 et_107 => ?_)
                obtain ⟨k_107, hk_107, hm_107, hM_107⟩ := kt_mulxk et_107
                try have hm81 : p3.toInt * t_81.toInt = -(p3.toInt * mw.toInt) := by rw [show t_81.toInt = -mw.toInt by omega, Int.mul_neg]
                refine lv_iadd hx hb dX11_along_108 ?_
                refine lv_topi (fun t_108 et_108 => ?_)
                obtain ⟨k_108, hk_108, hm_108, hM_108⟩ := kt_addk et_108
                exact kt_ri () hx hb hr hlk hS dX11_along_109 hP hD (by show (p3.toInt ≤ kt_rom p1.toInt mw.toInt ml.toInt p2.toInt → 0 ≤ t_108.toInt ∧ t_108.toInt < ml.toInt * mw.toInt ∧ t_108.toInt ≤ 80) ∧ (¬ p3.toInt ≤ kt_rom p1.toInt mw.toInt ml.toInt p2.toInt → t_108.toInt = -1); first | omega | exact ⟨fun h => by exfalso; omega, fun _ => by decide⟩)
            · have d_87 := c_87
              simp only [kt_lt, kt_le, kt_eq, kt_c0, kt_c1, kt_c2, kt_c3, kt_c4, kt_c8, kt_c9, kt_cm1, kt_c81, kt_c40, kt_c7, kt_c5, kt_c6, kt_c512, kt_c10, kt_c10000] at d_87
              refine lv_iconst (v := 1) hx hb dX11_along_90 (by decide) ?_
              refine lv_goto (tgt := 107) hx hb dX11_along_91 (by decide) ?_
              refine lv_imul hx hb dX11_along_107 ?_
              refine lv_topi (fun t_107 et_107 => ?_)
              obtain ⟨k_107, hk_107, hm_107, hM_107⟩ := kt_mulk (C := 1) et_107 (by decide)
              try simp only [kt_c0, kt_c1, kt_c2, kt_c3, kt_c4, kt_c8, kt_c9, kt_cm1, kt_c81, kt_c40, kt_c7, kt_c5, kt_c6, kt_c512, kt_c10, kt_c10000] at hk_107
              try have hm81 : p3.toInt * t_81.toInt = -(p3.toInt * mw.toInt) := by rw [show t_81.toInt = -mw.toInt by omega, Int.mul_neg]
              refine lv_iadd hx hb dX11_along_108 ?_
              refine lv_topi (fun t_108 et_108 => ?_)
              obtain ⟨k_108, hk_108, hm_108, hM_108⟩ := kt_addk et_108
              exact kt_ri () hx hb hr hlk hS dX11_along_109 hP hD (by show (p3.toInt ≤ kt_rom p1.toInt mw.toInt ml.toInt p2.toInt → 0 ≤ t_108.toInt ∧ t_108.toInt < ml.toInt * mw.toInt ∧ t_108.toInt ≤ 80) ∧ (¬ p3.toInt ≤ kt_rom p1.toInt mw.toInt ml.toInt p2.toInt → t_108.toInt = -1); first | omega | exact ⟨fun h => by exfalso; omega, fun _ => by decide⟩)
          · have d_74 := c_74
            simp only [kt_lt, kt_le, kt_eq, kt_c0, kt_c1, kt_c2, kt_c3, kt_c4, kt_c8, kt_c9, kt_cm1, kt_c81, kt_c40, kt_c7, kt_c5, kt_c6, kt_c512, kt_c10, kt_c10000] at d_74
            refine lv_aload_n hx hb dX11_along_77 rfl (lv_at hl 3 rfl) ?_
            refine va_get (D := D) (ci := 11) (C := RX11) (T := TX11) (N := 29) hx hb hts iw_X11_along_X11 hown hK hP 0 rfl rfl 1 (by decide) (hts (.fieldLink RX11 13 "KingTableModel" "wide" "I") (List.mem_cons_of_mem _ (List.mem_append_left _ (List.Mem.head _)))) (fun _ h9 => h9) rfl dX11_along_78 ?_
            refine lv_ineg hx hb dX11_along_81 ?_
            refine lv_topi (fun t_81 et_81 => ?_)
            obtain ⟨k_81, hk_81, hm_81, hM_81⟩ := kt_negk et_81
            refine lv_goto (tgt := 107) hx hb dX11_along_82 (by decide) ?_
            refine lv_imul hx hb dX11_along_107 ?_
            refine lv_topi (fun t_107 et_107 => ?_)
            obtain ⟨k_107, hk_107, hm_107, hM_107⟩ := kt_mulxk et_107
            try have hm81 : p3.toInt * t_81.toInt = -(p3.toInt * mw.toInt) := by rw [show t_81.toInt = -mw.toInt by omega, Int.mul_neg]
            refine lv_iadd hx hb dX11_along_108 ?_
            refine lv_topi (fun t_108 et_108 => ?_)
            obtain ⟨k_108, hk_108, hm_108, hM_108⟩ := kt_addk et_108
            exact kt_ri () hx hb hr hlk hS dX11_along_109 hP hD (by show (p3.toInt ≤ kt_rom p1.toInt mw.toInt ml.toInt p2.toInt → 0 ≤ t_108.toInt ∧ t_108.toInt < ml.toInt * mw.toInt ∧ t_108.toInt ≤ 80) ∧ (¬ p3.toInt ≤ kt_rom p1.toInt mw.toInt ml.toInt p2.toInt → t_108.toInt = -1); first | omega | exact ⟨fun h => by exfalso; omega, fun _ => by decide⟩)
        · have d_66 := c_66
          simp only [kt_lt, kt_le, kt_eq, kt_c0, kt_c1, kt_c2, kt_c3, kt_c4, kt_c8, kt_c9, kt_cm1, kt_c81, kt_c40, kt_c7, kt_c5, kt_c6, kt_c512, kt_c10, kt_c10000] at d_66
          refine lv_iconst (v := (-1)) hx hb dX11_along_69 (by decide) ?_
          exact kt_ri () hx hb hr hlk hS dX11_along_70 hP hD (by show (p3.toInt ≤ kt_rom p1.toInt mw.toInt ml.toInt p2.toInt → 0 ≤ (-1 : Int32).toInt ∧ (-1 : Int32).toInt < ml.toInt * mw.toInt ∧ (-1 : Int32).toInt ≤ 80) ∧ (¬ p3.toInt ≤ kt_rom p1.toInt mw.toInt ml.toInt p2.toInt → (-1 : Int32).toInt = -1); first | omega | exact ⟨fun h => by exfalso; omega, fun _ => by decide⟩)
      · have d_44 := c_44
        simp only [kt_lt, kt_le, kt_eq, kt_c0, kt_c1, kt_c2, kt_c3, kt_c4, kt_c8, kt_c9, kt_cm1, kt_c81, kt_c40, kt_c7, kt_c5, kt_c6, kt_c512, kt_c10, kt_c10000] at d_44
        refine lv_aload_n hx hb dX11_along_47 rfl (lv_at hl 2 rfl) ?_
        refine va_get (D := D) (ci := 11) (C := RX11) (T := TX11) (N := 29) hx hb hts iw_X11_along_X11 hown hK hP 0 rfl rfl 0 (by decide) (hts (.fieldLink RX11 7 "KingTableModel" "lines" "I") (List.mem_cons_of_mem _ (List.mem_append_left _ (List.mem_cons_of_mem _ (List.Mem.head _))))) (fun _ h9 => h9) rfl dX11_along_48 ?_
        refine lv_iconst (v := 1) hx hb dX11_along_51 (by decide) ?_
        refine lv_isub hx hb dX11_along_52 ?_
        refine lv_topi (fun t_52 et_52 => ?_)
        obtain ⟨k_52, hk_52, hm_52, hM_52⟩ := kt_subk et_52
        try simp only [kt_c0, kt_c1, kt_c2, kt_c3, kt_c4, kt_c8, kt_c9, kt_cm1, kt_c81, kt_c40, kt_c7, kt_c5, kt_c6, kt_c512, kt_c10, kt_c10000] at hk_52
        refine lv_iload hx hb dX11_along_53 (lv_at hl 1 rfl) ?_
        refine lv_isub hx hb dX11_along_55 ?_
        refine lv_topi (fun t_55 et_55 => ?_)
        obtain ⟨k_55, hk_55, hm_55, hM_55⟩ := kt_subk et_55
        refine lv_goto (tgt := 61) hx hb dX11_along_56 (by decide) ?_
        refine lv_istore (lv' := [(6, .int t_55), (5, .int t_13), (4, .int t_5), (0, .ref mx), (1, .int p1), (2, .int p2), (3, .int p3)]) hx hb dX11_along_61 hl (by decide) rfl (fun ls hl => ?_)
        refine lv_iload_n hx hb dX11_along_63 rfl (lv_at hl 6 rfl) ?_
        refine lv_iload hx hb dX11_along_64 (lv_at hl 0 rfl) ?_
        refine lv_icmp_le (tgt := 71) hx hb dX11_along_66 (by decide) (fun c_66 => ?_) (fun c_66 => ?_)
        · have d_66 := c_66
          simp only [kt_lt, kt_le, kt_eq, kt_c0, kt_c1, kt_c2, kt_c3, kt_c4, kt_c8, kt_c9, kt_cm1, kt_c81, kt_c40, kt_c7, kt_c5, kt_c6, kt_c512, kt_c10, kt_c10000] at d_66
          refine lv_iload_n hx hb dX11_along_71 rfl (lv_at hl 4 rfl) ?_
          refine lv_iload_n hx hb dX11_along_72 rfl (lv_at hl 6 rfl) ?_
          refine lv_iload_n hx hb dX11_along_73 rfl (lv_at hl 5 rfl) ?_
          refine lv_if_ne (tgt := 85) hx hb dX11_along_74 (by decide) (fun c_74 => ?_) (fun c_74 => ?_)
          · have d_74 := c_74
            simp only [kt_lt, kt_le, kt_eq, kt_c0, kt_c1, kt_c2, kt_c3, kt_c4, kt_c8, kt_c9, kt_cm1, kt_c81, kt_c40, kt_c7, kt_c5, kt_c6, kt_c512, kt_c10, kt_c10000] at d_74
            refine lv_iload_n hx hb dX11_along_85 rfl (lv_at hl 5 rfl) ?_
            refine lv_iconst (v := 1) hx hb dX11_along_86 (by decide) ?_
            refine lv_icmp_ne (tgt := 94) hx hb dX11_along_87 (by decide) (fun c_87 => ?_) (fun c_87 => ?_)
            · have d_87 := c_87
              simp only [kt_lt, kt_le, kt_eq, kt_c0, kt_c1, kt_c2, kt_c3, kt_c4, kt_c8, kt_c9, kt_cm1, kt_c81, kt_c40, kt_c7, kt_c5, kt_c6, kt_c512, kt_c10, kt_c10000] at d_87
              refine lv_iload_n hx hb dX11_along_94 rfl (lv_at hl 5 rfl) ?_
              refine lv_iconst (v := 2) hx hb dX11_along_95 (by decide) ?_
              refine lv_icmp_ne (tgt := 106) hx hb dX11_along_96 (by decide) (fun c_96 => ?_) (fun c_96 => ?_)
              · have d_96 := c_96
                simp only [kt_lt, kt_le, kt_eq, kt_c0, kt_c1, kt_c2, kt_c3, kt_c4, kt_c8, kt_c9, kt_cm1, kt_c81, kt_c40, kt_c7, kt_c5, kt_c6, kt_c512, kt_c10, kt_c10000] at d_96
                refine lv_iconst (v := (-1)) hx hb dX11_along_106 (by decide) ?_
                refine lv_imul hx hb dX11_along_107 ?_
                refine lv_topi (fun t_107 et_107 => ?_)
                obtain ⟨k_107, hk_107, hm_107, hM_107⟩ := kt_mulk (C := -1) et_107 (by decide)
                try simp only [kt_c0, kt_c1, kt_c2, kt_c3, kt_c4, kt_c8, kt_c9, kt_cm1, kt_c81, kt_c40, kt_c7, kt_c5, kt_c6, kt_c512, kt_c10, kt_c10000] at hk_107
                try have hm81 : p3.toInt * t_81.toInt = -(p3.toInt * mw.toInt) := by rw [show t_81.toInt = -mw.toInt by omega, Int.mul_neg]
                refine lv_iadd hx hb dX11_along_108 ?_
                refine lv_topi (fun t_108 et_108 => ?_)
                obtain ⟨k_108, hk_108, hm_108, hM_108⟩ := kt_addk et_108
                exact kt_ri () hx hb hr hlk hS dX11_along_109 hP hD (by show (p3.toInt ≤ kt_rom p1.toInt mw.toInt ml.toInt p2.toInt → 0 ≤ t_108.toInt ∧ t_108.toInt < ml.toInt * mw.toInt ∧ t_108.toInt ≤ 80) ∧ (¬ p3.toInt ≤ kt_rom p1.toInt mw.toInt ml.toInt p2.toInt → t_108.toInt = -1); first | omega | exact ⟨fun h => by exfalso; omega, fun _ => by decide⟩)
              · have d_96 := c_96
                simp only [kt_lt, kt_le, kt_eq, kt_c0, kt_c1, kt_c2, kt_c3, kt_c4, kt_c8, kt_c9, kt_cm1, kt_c81, kt_c40, kt_c7, kt_c5, kt_c6, kt_c512, kt_c10, kt_c10000] at d_96
                refine lv_aload_n hx hb dX11_along_99 rfl (lv_at hl 3 rfl) ?_
                refine va_get (D := D) (ci := 11) (C := RX11) (T := TX11) (N := 29) hx hb hts iw_X11_along_X11 hown hK hP 0 rfl rfl 1 (by decide) (hts (.fieldLink RX11 13 "KingTableModel" "wide" "I") (List.mem_cons_of_mem _ (List.mem_append_left _ (List.Mem.head _)))) (fun _ h9 => h9) rfl dX11_along_100 ?_
                refine lv_goto (tgt := 107) hx hb dX11_along_103 (by decide) ?_
                refine lv_imul hx hb dX11_along_107 ?_
                refine lv_topi (fun t_107 et_107 => ?_)
                obtain ⟨k_107, hk_107, hm_107, hM_107⟩ := kt_mulxk et_107
                try have hm81 : p3.toInt * t_81.toInt = -(p3.toInt * mw.toInt) := by rw [show t_81.toInt = -mw.toInt by omega, Int.mul_neg]
                refine lv_iadd hx hb dX11_along_108 ?_
                refine lv_topi (fun t_108 et_108 => ?_)
                obtain ⟨k_108, hk_108, hm_108, hM_108⟩ := kt_addk et_108
                exact kt_ri () hx hb hr hlk hS dX11_along_109 hP hD (by show (p3.toInt ≤ kt_rom p1.toInt mw.toInt ml.toInt p2.toInt → 0 ≤ t_108.toInt ∧ t_108.toInt < ml.toInt * mw.toInt ∧ t_108.toInt ≤ 80) ∧ (¬ p3.toInt ≤ kt_rom p1.toInt mw.toInt ml.toInt p2.toInt → t_108.toInt = -1); first | omega | exact ⟨fun h => by exfalso; omega, fun _ => by decide⟩)
            · have d_87 := c_87
              simp only [kt_lt, kt_le, kt_eq, kt_c0, kt_c1, kt_c2, kt_c3, kt_c4, kt_c8, kt_c9, kt_cm1, kt_c81, kt_c40, kt_c7, kt_c5, kt_c6, kt_c512, kt_c10, kt_c10000] at d_87
              refine lv_iconst (v := 1) hx hb dX11_along_90 (by decide) ?_
              refine lv_goto (tgt := 107) hx hb dX11_along_91 (by decide) ?_
              refine lv_imul hx hb dX11_along_107 ?_
              refine lv_topi (fun t_107 et_107 => ?_)
              obtain ⟨k_107, hk_107, hm_107, hM_107⟩ := kt_mulk (C := 1) et_107 (by decide)
              try simp only [kt_c0, kt_c1, kt_c2, kt_c3, kt_c4, kt_c8, kt_c9, kt_cm1, kt_c81, kt_c40, kt_c7, kt_c5, kt_c6, kt_c512, kt_c10, kt_c10000] at hk_107
              try have hm81 : p3.toInt * t_81.toInt = -(p3.toInt * mw.toInt) := by rw [show t_81.toInt = -mw.toInt by omega, Int.mul_neg]
              refine lv_iadd hx hb dX11_along_108 ?_
              refine lv_topi (fun t_108 et_108 => ?_)
              obtain ⟨k_108, hk_108, hm_108, hM_108⟩ := kt_addk et_108
              exact kt_ri () hx hb hr hlk hS dX11_along_109 hP hD (by show (p3.toInt ≤ kt_rom p1.toInt mw.toInt ml.toInt p2.toInt → 0 ≤ t_108.toInt ∧ t_108.toInt < ml.toInt * mw.toInt ∧ t_108.toInt ≤ 80) ∧ (¬ p3.toInt ≤ kt_rom p1.toInt mw.toInt ml.toInt p2.toInt → t_108.toInt = -1); first | omega | exact ⟨fun h => by exfalso; omega, fun _ => by decide⟩)
          · have d_74 := c_74
            simp only [kt_lt, kt_le, kt_eq, kt_c0, kt_c1, kt_c2, kt_c3, kt_c4, kt_c8, kt_c9, kt_cm1, kt_c81, kt_c40, kt_c7, kt_c5, kt_c6, kt_c512, kt_c10, kt_c10000] at d_74
            refine lv_aload_n hx hb dX11_along_77 rfl (lv_at hl 3 rfl) ?_
            refine va_get (D := D) (ci := 11) (C := RX11) (T := TX11) (N := 29) hx hb hts iw_X11_along_X11 hown hK hP 0 rfl rfl 1 (by decide) (hts (.fieldLink RX11 13 "KingTableModel" "wide" "I") (List.mem_cons_of_mem _ (List.mem_append_left _ (List.Mem.head _)))) (fun _ h9 => h9) rfl dX11_along_78 ?_
            refine lv_ineg hx hb dX11_along_81 ?_
            refine lv_topi (fun t_81 et_81 => ?_)
            obtain ⟨k_81, hk_81, hm_81, hM_81⟩ := kt_negk et_81
            refine lv_goto (tgt := 107) hx hb dX11_along_82 (by decide) ?_
            refine lv_imul hx hb dX11_along_107 ?_
            refine lv_topi (fun t_107 et_107 => ?_)
            obtain ⟨k_107, hk_107, hm_107, hM_107⟩ := kt_mulxk et_107
            try have hm81 : p3.toInt * t_81.toInt = -(p3.toInt * mw.toInt) := by rw [show t_81.toInt = -mw.toInt by omega, Int.mul_neg]
            refine lv_iadd hx hb dX11_along_108 ?_
            refine lv_topi (fun t_108 et_108 => ?_)
            obtain ⟨k_108, hk_108, hm_108, hM_108⟩ := kt_addk et_108
            exact kt_ri () hx hb hr hlk hS dX11_along_109 hP hD (by show (p3.toInt ≤ kt_rom p1.toInt mw.toInt ml.toInt p2.toInt → 0 ≤ t_108.toInt ∧ t_108.toInt < ml.toInt * mw.toInt ∧ t_108.toInt ≤ 80) ∧ (¬ p3.toInt ≤ kt_rom p1.toInt mw.toInt ml.toInt p2.toInt → t_108.toInt = -1); first | omega | exact ⟨fun h => by exfalso; omega, fun _ => by decide⟩)
        · have d_66 := c_66
          simp only [kt_lt, kt_le, kt_eq, kt_c0, kt_c1, kt_c2, kt_c3, kt_c4, kt_c8, kt_c9, kt_cm1, kt_c81, kt_c40, kt_c7, kt_c5, kt_c6, kt_c512, kt_c10, kt_c10000] at d_66
          refine lv_iconst (v := (-1)) hx hb dX11_along_69 (by decide) ?_
          exact kt_ri () hx hb hr hlk hS dX11_along_70 hP hD (by show (p3.toInt ≤ kt_rom p1.toInt mw.toInt ml.toInt p2.toInt → 0 ≤ (-1 : Int32).toInt ∧ (-1 : Int32).toInt < ml.toInt * mw.toInt ∧ (-1 : Int32).toInt ≤ 80) ∧ (¬ p3.toInt ≤ kt_rom p1.toInt mw.toInt ml.toInt p2.toInt → (-1 : Int32).toInt = -1); first | omega | exact ⟨fun h => by exfalso; omega, fun _ => by decide⟩)
    · have d_27 := c_27
      simp only [kt_lt, kt_le, kt_eq, kt_c0, kt_c1, kt_c2, kt_c3, kt_c4, kt_c8, kt_c9, kt_cm1, kt_c81, kt_c40, kt_c7, kt_c5, kt_c6, kt_c512, kt_c10, kt_c10000] at d_27
      refine lv_aload_n hx hb dX11_along_30 rfl (lv_at hl 2 rfl) ?_
      refine va_get (D := D) (ci := 11) (C := RX11) (T := TX11) (N := 29) hx hb hts iw_X11_along_X11 hown hK hP 0 rfl rfl 1 (by decide) (hts (.fieldLink RX11 13 "KingTableModel" "wide" "I") (List.mem_cons_of_mem _ (List.mem_append_left _ (List.Mem.head _)))) (fun _ h9 => h9) rfl dX11_along_31 ?_
      refine lv_iconst (v := 1) hx hb dX11_along_34 (by decide) ?_
      refine lv_isub hx hb dX11_along_35 ?_
      refine lv_topi (fun t_35 et_35 => ?_)
      obtain ⟨k_35, hk_35, hm_35, hM_35⟩ := kt_subk et_35
      try simp only [kt_c0, kt_c1, kt_c2, kt_c3, kt_c4, kt_c8, kt_c9, kt_cm1, kt_c81, kt_c40, kt_c7, kt_c5, kt_c6, kt_c512, kt_c10, kt_c10000] at hk_35
      refine lv_iload hx hb dX11_along_36 (lv_at hl 0 rfl) ?_
      refine lv_isub hx hb dX11_along_38 ?_
      refine lv_topi (fun t_38 et_38 => ?_)
      obtain ⟨k_38, hk_38, hm_38, hM_38⟩ := kt_subk et_38
      refine lv_goto (tgt := 61) hx hb dX11_along_39 (by decide) ?_
      refine lv_istore (lv' := [(6, .int t_38), (5, .int t_13), (4, .int t_5), (0, .ref mx), (1, .int p1), (2, .int p2), (3, .int p3)]) hx hb dX11_along_61 hl (by decide) rfl (fun ls hl => ?_)
      refine lv_iload_n hx hb dX11_along_63 rfl (lv_at hl 6 rfl) ?_
      refine lv_iload hx hb dX11_along_64 (lv_at hl 0 rfl) ?_
      refine lv_icmp_le (tgt := 71) hx hb dX11_along_66 (by decide) (fun c_66 => ?_) (fun c_66 => ?_)
      · have d_66 := c_66
        simp only [kt_lt, kt_le, kt_eq, kt_c0, kt_c1, kt_c2, kt_c3, kt_c4, kt_c8, kt_c9, kt_cm1, kt_c81, kt_c40, kt_c7, kt_c5, kt_c6, kt_c512, kt_c10, kt_c10000] at d_66
        refine lv_iload_n hx hb dX11_along_71 rfl (lv_at hl 4 rfl) ?_
        refine lv_iload_n hx hb dX11_along_72 rfl (lv_at hl 6 rfl) ?_
        refine lv_iload_n hx hb dX11_along_73 rfl (lv_at hl 5 rfl) ?_
        refine lv_if_ne (tgt := 85) hx hb dX11_along_74 (by decide) (fun c_74 => ?_) (fun c_74 => ?_)
        · have d_74 := c_74
          simp only [kt_lt, kt_le, kt_eq, kt_c0, kt_c1, kt_c2, kt_c3, kt_c4, kt_c8, kt_c9, kt_cm1, kt_c81, kt_c40, kt_c7, kt_c5, kt_c6, kt_c512, kt_c10, kt_c10000] at d_74
          refine lv_iload_n hx hb dX11_along_85 rfl (lv_at hl 5 rfl) ?_
          refine lv_iconst (v := 1) hx hb dX11_along_86 (by decide) ?_
          refine lv_icmp_ne (tgt := 94) hx hb dX11_along_87 (by decide) (fun c_87 => ?_) (fun c_87 => ?_)
          · have d_87 := c_87
            simp only [kt_lt, kt_le, kt_eq, kt_c0, kt_c1, kt_c2, kt_c3, kt_c4, kt_c8, kt_c9, kt_cm1, kt_c81, kt_c40, kt_c7, kt_c5, kt_c6, kt_c512, kt_c10, kt_c10000] at d_87
            refine lv_iload_n hx hb dX11_along_94 rfl (lv_at hl 5 rfl) ?_
            refine lv_iconst (v := 2) hx hb dX11_along_95 (by decide) ?_
            refine lv_icmp_ne (tgt := 106) hx hb dX11_along_96 (by decide) (fun c_96 => ?_) (fun c_96 => ?_)
            · have d_96 := c_96
              simp only [kt_lt, kt_le, kt_eq, kt_c0, kt_c1, kt_c2, kt_c3, kt_c4, kt_c8, kt_c9, kt_cm1, kt_c81, kt_c40, kt_c7, kt_c5, kt_c6, kt_c512, kt_c10, kt_c10000] at d_96
              refine lv_iconst (v := (-1)) hx hb dX11_along_106 (by decide) ?_
              refine lv_imul hx hb dX11_along_107 ?_
              refine lv_topi (fun t_107 et_107 => ?_)
              obtain ⟨k_107, hk_107, hm_107, hM_107⟩ := kt_mulk (C := -1) et_107 (by decide)
              try simp only [kt_c0, kt_c1, kt_c2, kt_c3, kt_c4, kt_c8, kt_c9, kt_cm1, kt_c81, kt_c40, kt_c7, kt_c5, kt_c6, kt_c512, kt_c10, kt_c10000] at hk_107
              try have hm81 : p3.toInt * t_81.toInt = -(p3.toInt * mw.toInt) := by rw [show t_81.toInt = -mw.toInt by omega, Int.mul_neg]
              refine lv_iadd hx hb dX11_along_108 ?_
              refine lv_topi (fun t_108 et_108 => ?_)
              obtain ⟨k_108, hk_108, hm_108, hM_108⟩ := kt_addk et_108
              exact kt_ri () hx hb hr hlk hS dX11_along_109 hP hD (by show (p3.toInt ≤ kt_rom p1.toInt mw.toInt ml.toInt p2.toInt → 0 ≤ t_108.toInt ∧ t_108.toInt < ml.toInt * mw.toInt ∧ t_108.toInt ≤ 80) ∧ (¬ p3.toInt ≤ kt_rom p1.toInt mw.toInt ml.toInt p2.toInt → t_108.toInt = -1); first | omega | exact ⟨fun h => by exfalso; omega, fun _ => by decide⟩)
            · have d_96 := c_96
              simp only [kt_lt, kt_le, kt_eq, kt_c0, kt_c1, kt_c2, kt_c3, kt_c4, kt_c8, kt_c9, kt_cm1, kt_c81, kt_c40, kt_c7, kt_c5, kt_c6, kt_c512, kt_c10, kt_c10000] at d_96
              refine lv_aload_n hx hb dX11_along_99 rfl (lv_at hl 3 rfl) ?_
              refine va_get (D := D) (ci := 11) (C := RX11) (T := TX11) (N := 29) hx hb hts iw_X11_along_X11 hown hK hP 0 rfl rfl 1 (by decide) (hts (.fieldLink RX11 13 "KingTableModel" "wide" "I") (List.mem_cons_of_mem _ (List.mem_append_left _ (List.Mem.head _)))) (fun _ h9 => h9) rfl dX11_along_100 ?_
              refine lv_goto (tgt := 107) hx hb dX11_along_103 (by decide) ?_
              refine lv_imul hx hb dX11_along_107 ?_
              refine lv_topi (fun t_107 et_107 => ?_)
              obtain ⟨k_107, hk_107, hm_107, hM_107⟩ := kt_mulxk et_107
              try have hm81 : p3.toInt * t_81.toInt = -(p3.toInt * mw.toInt) := by rw [show t_81.toInt = -mw.toInt by omega, Int.mul_neg]
              refine lv_iadd hx hb dX11_along_108 ?_
              refine lv_topi (fun t_108 et_108 => ?_)
              obtain ⟨k_108, hk_108, hm_108, hM_108⟩ := kt_addk et_108
              exact kt_ri () hx hb hr hlk hS dX11_along_109 hP hD (by show (p3.toInt ≤ kt_rom p1.toInt mw.toInt ml.toInt p2.toInt → 0 ≤ t_108.toInt ∧ t_108.toInt < ml.toInt * mw.toInt ∧ t_108.toInt ≤ 80) ∧ (¬ p3.toInt ≤ kt_rom p1.toInt mw.toInt ml.toInt p2.toInt → t_108.toInt = -1); first | omega | exact ⟨fun h => by exfalso; omega, fun _ => by decide⟩)
          · have d_87 := c_87
            simp only [kt_lt, kt_le, kt_eq, kt_c0, kt_c1, kt_c2, kt_c3, kt_c4, kt_c8, kt_c9, kt_cm1, kt_c81, kt_c40, kt_c7, kt_c5, kt_c6, kt_c512, kt_c10, kt_c10000] at d_87
            refine lv_iconst (v := 1) hx hb dX11_along_90 (by decide) ?_
            refine lv_goto (tgt := 107) hx hb dX11_along_91 (by decide) ?_
            refine lv_imul hx hb dX11_along_107 ?_
            refine lv_topi (fun t_107 et_107 => ?_)
            obtain ⟨k_107, hk_107, hm_107, hM_107⟩ := kt_mulk (C := 1) et_107 (by decide)
            try simp only [kt_c0, kt_c1, kt_c2, kt_c3, kt_c4, kt_c8, kt_c9, kt_cm1, kt_c81, kt_c40, kt_c7, kt_c5, kt_c6, kt_c512, kt_c10, kt_c10000] at hk_107
            try have hm81 : p3.toInt * t_81.toInt = -(p3.toInt * mw.toInt) := by rw [show t_81.toInt = -mw.toInt by omega, Int.mul_neg]
            refine lv_iadd hx hb dX11_along_108 ?_
            refine lv_topi (fun t_108 et_108 => ?_)
            obtain ⟨k_108, hk_108, hm_108, hM_108⟩ := kt_addk et_108
            exact kt_ri () hx hb hr hlk hS dX11_along_109 hP hD (by show (p3.toInt ≤ kt_rom p1.toInt mw.toInt ml.toInt p2.toInt → 0 ≤ t_108.toInt ∧ t_108.toInt < ml.toInt * mw.toInt ∧ t_108.toInt ≤ 80) ∧ (¬ p3.toInt ≤ kt_rom p1.toInt mw.toInt ml.toInt p2.toInt → t_108.toInt = -1); first | omega | exact ⟨fun h => by exfalso; omega, fun _ => by decide⟩)
        · have d_74 := c_74
          simp only [kt_lt, kt_le, kt_eq, kt_c0, kt_c1, kt_c2, kt_c3, kt_c4, kt_c8, kt_c9, kt_cm1, kt_c81, kt_c40, kt_c7, kt_c5, kt_c6, kt_c512, kt_c10, kt_c10000] at d_74
          refine lv_aload_n hx hb dX11_along_77 rfl (lv_at hl 3 rfl) ?_
          refine va_get (D := D) (ci := 11) (C := RX11) (T := TX11) (N := 29) hx hb hts iw_X11_along_X11 hown hK hP 0 rfl rfl 1 (by decide) (hts (.fieldLink RX11 13 "KingTableModel" "wide" "I") (List.mem_cons_of_mem _ (List.mem_append_left _ (List.Mem.head _)))) (fun _ h9 => h9) rfl dX11_along_78 ?_
          refine lv_ineg hx hb dX11_along_81 ?_
          refine lv_topi (fun t_81 et_81 => ?_)
          obtain ⟨k_81, hk_81, hm_81, hM_81⟩ := kt_negk et_81
          refine lv_goto (tgt := 107) hx hb dX11_along_82 (by decide) ?_
          refine lv_imul hx hb dX11_along_107 ?_
          refine lv_topi (fun t_107 et_107 => ?_)
          obtain ⟨k_107, hk_107, hm_107, hM_107⟩ := kt_mulxk et_107
          try have hm81 : p3.toInt * t_81.toInt = -(p3.toInt * mw.toInt) := by rw [show t_81.toInt = -mw.toInt by omega, Int.mul_neg]
          refine lv_iadd hx hb dX11_along_108 ?_
          refine lv_topi (fun t_108 et_108 => ?_)
          obtain ⟨k_108, hk_108, hm_108, hM_108⟩ := kt_addk et_108
          exact kt_ri () hx hb hr hlk hS dX11_along_109 hP hD (by show (p3.toInt ≤ kt_rom p1.toInt mw.toInt ml.toInt p2.toInt → 0 ≤ t_108.toInt ∧ t_108.toInt < ml.toInt * mw.toInt ∧ t_108.toInt ≤ 80) ∧ (¬ p3.toInt ≤ kt_rom p1.toInt mw.toInt ml.toInt p2.toInt → t_108.toInt = -1); first | omega | exact ⟨fun h => by exfalso; omega, fun _ => by decide⟩)
      · have d_66 := c_66
        simp only [kt_lt, kt_le, kt_eq, kt_c0, kt_c1, kt_c2, kt_c3, kt_c4, kt_c8, kt_c9, kt_cm1, kt_c81, kt_c40, kt_c7, kt_c5, kt_c6, kt_c512, kt_c10, kt_c10000] at d_66
        refine lv_iconst (v := (-1)) hx hb dX11_along_69 (by decide) ?_
        exact kt_ri () hx hb hr hlk hS dX11_along_70 hP hD (by show (p3.toInt ≤ kt_rom p1.toInt mw.toInt ml.toInt p2.toInt → 0 ≤ (-1 : Int32).toInt ∧ (-1 : Int32).toInt < ml.toInt * mw.toInt ∧ (-1 : Int32).toInt ≤ 80) ∧ (¬ p3.toInt ≤ kt_rom p1.toInt mw.toInt ml.toInt p2.toInt → (-1 : Int32).toInt = -1); first | omega | exact ⟨fun h => by exfalso; omega, fun _ => by decide⟩)
  · have d_17 := c_17
    simp only [kt_lt, kt_le, kt_eq, kt_c0, kt_c1, kt_c2, kt_c3, kt_c4, kt_c8, kt_c9, kt_cm1, kt_c81, kt_c40, kt_c7, kt_c5, kt_c6, kt_c512, kt_c10, kt_c10000] at d_17
    refine lv_iload hx hb dX11_along_20 (lv_at hl 1 rfl) ?_
    refine lv_goto (tgt := 61) hx hb dX11_along_22 (by decide) ?_
    refine lv_istore (lv' := [(6, .int t_5), (5, .int t_13), (4, .int t_5), (0, .ref mx), (1, .int p1), (2, .int p2), (3, .int p3)]) hx hb dX11_along_61 hl (by decide) rfl (fun ls hl => ?_)
    refine lv_iload_n hx hb dX11_along_63 rfl (lv_at hl 6 rfl) ?_
    refine lv_iload hx hb dX11_along_64 (lv_at hl 0 rfl) ?_
    refine lv_icmp_le (tgt := 71) hx hb dX11_along_66 (by decide) (fun c_66 => ?_) (fun c_66 => ?_)
    · have d_66 := c_66
      simp only [kt_lt, kt_le, kt_eq, kt_c0, kt_c1, kt_c2, kt_c3, kt_c4, kt_c8, kt_c9, kt_cm1, kt_c81, kt_c40, kt_c7, kt_c5, kt_c6, kt_c512, kt_c10, kt_c10000] at d_66
      refine lv_iload_n hx hb dX11_along_71 rfl (lv_at hl 4 rfl) ?_
      refine lv_iload_n hx hb dX11_along_72 rfl (lv_at hl 6 rfl) ?_
      refine lv_iload_n hx hb dX11_along_73 rfl (lv_at hl 5 rfl) ?_
      refine lv_if_ne (tgt := 85) hx hb dX11_along_74 (by decide) (fun c_74 => ?_) (fun c_74 => ?_)
      · have d_74 := c_74
        simp only [kt_lt, kt_le, kt_eq, kt_c0, kt_c1, kt_c2, kt_c3, kt_c4, kt_c8, kt_c9, kt_cm1, kt_c81, kt_c40, kt_c7, kt_c5, kt_c6, kt_c512, kt_c10, kt_c10000] at d_74
        refine lv_iload_n hx hb dX11_along_85 rfl (lv_at hl 5 rfl) ?_
        refine lv_iconst (v := 1) hx hb dX11_along_86 (by decide) ?_
        refine lv_icmp_ne (tgt := 94) hx hb dX11_along_87 (by decide) (fun c_87 => ?_) (fun c_87 => ?_)
        · have d_87 := c_87
          simp only [kt_lt, kt_le, kt_eq, kt_c0, kt_c1, kt_c2, kt_c3, kt_c4, kt_c8, kt_c9, kt_cm1, kt_c81, kt_c40, kt_c7, kt_c5, kt_c6, kt_c512, kt_c10, kt_c10000] at d_87
          refine lv_iload_n hx hb dX11_along_94 rfl (lv_at hl 5 rfl) ?_
          refine lv_iconst (v := 2) hx hb dX11_along_95 (by decide) ?_
          refine lv_icmp_ne (tgt := 106) hx hb dX11_along_96 (by decide) (fun c_96 => ?_) (fun c_96 => ?_)
          · have d_96 := c_96
            simp only [kt_lt, kt_le, kt_eq, kt_c0, kt_c1, kt_c2, kt_c3, kt_c4, kt_c8, kt_c9, kt_cm1, kt_c81, kt_c40, kt_c7, kt_c5, kt_c6, kt_c512, kt_c10, kt_c10000] at d_96
            refine lv_iconst (v := (-1)) hx hb dX11_along_106 (by decide) ?_
            refine lv_imul hx hb dX11_along_107 ?_
            refine lv_topi (fun t_107 et_107 => ?_)
            obtain ⟨k_107, hk_107, hm_107, hM_107⟩ := kt_mulk (C := -1) et_107 (by decide)
            try simp only [kt_c0, kt_c1, kt_c2, kt_c3, kt_c4, kt_c8, kt_c9, kt_cm1, kt_c81, kt_c40, kt_c7, kt_c5, kt_c6, kt_c512, kt_c10, kt_c10000] at hk_107
            try have hm81 : p3.toInt * t_81.toInt = -(p3.toInt * mw.toInt) := by rw [show t_81.toInt = -mw.toInt by omega, Int.mul_neg]
            refine lv_iadd hx hb dX11_along_108 ?_
            refine lv_topi (fun t_108 et_108 => ?_)
            obtain ⟨k_108, hk_108, hm_108, hM_108⟩ := kt_addk et_108
            exact kt_ri () hx hb hr hlk hS dX11_along_109 hP hD (by show (p3.toInt ≤ kt_rom p1.toInt mw.toInt ml.toInt p2.toInt → 0 ≤ t_108.toInt ∧ t_108.toInt < ml.toInt * mw.toInt ∧ t_108.toInt ≤ 80) ∧ (¬ p3.toInt ≤ kt_rom p1.toInt mw.toInt ml.toInt p2.toInt → t_108.toInt = -1); first | omega | exact ⟨fun h => by exfalso; omega, fun _ => by decide⟩)
          · have d_96 := c_96
            simp only [kt_lt, kt_le, kt_eq, kt_c0, kt_c1, kt_c2, kt_c3, kt_c4, kt_c8, kt_c9, kt_cm1, kt_c81, kt_c40, kt_c7, kt_c5, kt_c6, kt_c512, kt_c10, kt_c10000] at d_96
            refine lv_aload_n hx hb dX11_along_99 rfl (lv_at hl 3 rfl) ?_
            refine va_get (D := D) (ci := 11) (C := RX11) (T := TX11) (N := 29) hx hb hts iw_X11_along_X11 hown hK hP 0 rfl rfl 1 (by decide) (hts (.fieldLink RX11 13 "KingTableModel" "wide" "I") (List.mem_cons_of_mem _ (List.mem_append_left _ (List.Mem.head _)))) (fun _ h9 => h9) rfl dX11_along_100 ?_
            refine lv_goto (tgt := 107) hx hb dX11_along_103 (by decide) ?_
            refine lv_imul hx hb dX11_along_107 ?_
            refine lv_topi (fun t_107 et_107 => ?_)
            obtain ⟨k_107, hk_107, hm_107, hM_107⟩ := kt_mulxk et_107
            try have hm81 : p3.toInt * t_81.toInt = -(p3.toInt * mw.toInt) := by rw [show t_81.toInt = -mw.toInt by omega, Int.mul_neg]
            refine lv_iadd hx hb dX11_along_108 ?_
            refine lv_topi (fun t_108 et_108 => ?_)
            obtain ⟨k_108, hk_108, hm_108, hM_108⟩ := kt_addk et_108
            exact kt_ri () hx hb hr hlk hS dX11_along_109 hP hD (by show (p3.toInt ≤ kt_rom p1.toInt mw.toInt ml.toInt p2.toInt → 0 ≤ t_108.toInt ∧ t_108.toInt < ml.toInt * mw.toInt ∧ t_108.toInt ≤ 80) ∧ (¬ p3.toInt ≤ kt_rom p1.toInt mw.toInt ml.toInt p2.toInt → t_108.toInt = -1); first | omega | exact ⟨fun h => by exfalso; omega, fun _ => by decide⟩)
        · have d_87 := c_87
          simp only [kt_lt, kt_le, kt_eq, kt_c0, kt_c1, kt_c2, kt_c3, kt_c4, kt_c8, kt_c9, kt_cm1, kt_c81, kt_c40, kt_c7, kt_c5, kt_c6, kt_c512, kt_c10, kt_c10000] at d_87
          refine lv_iconst (v := 1) hx hb dX11_along_90 (by decide) ?_
          refine lv_goto (tgt := 107) hx hb dX11_along_91 (by decide) ?_
          refine lv_imul hx hb dX11_along_107 ?_
          refine lv_topi (fun t_107 et_107 => ?_)
          obtain ⟨k_107, hk_107, hm_107, hM_107⟩ := kt_mulk (C := 1) et_107 (by decide)
          try simp only [kt_c0, kt_c1, kt_c2, kt_c3, kt_c4, kt_c8, kt_c9, kt_cm1, kt_c81, kt_c40, kt_c7, kt_c5, kt_c6, kt_c512, kt_c10, kt_c10000] at hk_107
          try have hm81 : p3.toInt * t_81.toInt = -(p3.toInt * mw.toInt) := by rw [show t_81.toInt = -mw.toInt by omega, Int.mul_neg]
          refine lv_iadd hx hb dX11_along_108 ?_
          refine lv_topi (fun t_108 et_108 => ?_)
          obtain ⟨k_108, hk_108, hm_108, hM_108⟩ := kt_addk et_108
          exact kt_ri () hx hb hr hlk hS dX11_along_109 hP hD (by show (p3.toInt ≤ kt_rom p1.toInt mw.toInt ml.toInt p2.toInt → 0 ≤ t_108.toInt ∧ t_108.toInt < ml.toInt * mw.toInt ∧ t_108.toInt ≤ 80) ∧ (¬ p3.toInt ≤ kt_rom p1.toInt mw.toInt ml.toInt p2.toInt → t_108.toInt = -1); first | omega | exact ⟨fun h => by exfalso; omega, fun _ => by decide⟩)
      · have d_74 := c_74
        simp only [kt_lt, kt_le, kt_eq, kt_c0, kt_c1, kt_c2, kt_c3, kt_c4, kt_c8, kt_c9, kt_cm1, kt_c81, kt_c40, kt_c7, kt_c5, kt_c6, kt_c512, kt_c10, kt_c10000] at d_74
        refine lv_aload_n hx hb dX11_along_77 rfl (lv_at hl 3 rfl) ?_
        refine va_get (D := D) (ci := 11) (C := RX11) (T := TX11) (N := 29) hx hb hts iw_X11_along_X11 hown hK hP 0 rfl rfl 1 (by decide) (hts (.fieldLink RX11 13 "KingTableModel" "wide" "I") (List.mem_cons_of_mem _ (List.mem_append_left _ (List.Mem.head _)))) (fun _ h9 => h9) rfl dX11_along_78 ?_
        refine lv_ineg hx hb dX11_along_81 ?_
        refine lv_topi (fun t_81 et_81 => ?_)
        obtain ⟨k_81, hk_81, hm_81, hM_81⟩ := kt_negk et_81
        refine lv_goto (tgt := 107) hx hb dX11_along_82 (by decide) ?_
        refine lv_imul hx hb dX11_along_107 ?_
        refine lv_topi (fun t_107 et_107 => ?_)
        obtain ⟨k_107, hk_107, hm_107, hM_107⟩ := kt_mulxk et_107
        try have hm81 : p3.toInt * t_81.toInt = -(p3.toInt * mw.toInt) := by rw [show t_81.toInt = -mw.toInt by omega, Int.mul_neg]
        refine lv_iadd hx hb dX11_along_108 ?_
        refine lv_topi (fun t_108 et_108 => ?_)
        obtain ⟨k_108, hk_108, hm_108, hM_108⟩ := kt_addk et_108
        exact kt_ri () hx hb hr hlk hS dX11_along_109 hP hD (by show (p3.toInt ≤ kt_rom p1.toInt mw.toInt ml.toInt p2.toInt → 0 ≤ t_108.toInt ∧ t_108.toInt < ml.toInt * mw.toInt ∧ t_108.toInt ≤ 80) ∧ (¬ p3.toInt ≤ kt_rom p1.toInt mw.toInt ml.toInt p2.toInt → t_108.toInt = -1); first | omega | exact ⟨fun h => by exfalso; omega, fun _ => by decide⟩)
    · have d_66 := c_66
      simp only [kt_lt, kt_le, kt_eq, kt_c0, kt_c1, kt_c2, kt_c3, kt_c4, kt_c8, kt_c9, kt_cm1, kt_c81, kt_c40, kt_c7, kt_c5, kt_c6, kt_c512, kt_c10, kt_c10000] at d_66
      refine lv_iconst (v := (-1)) hx hb dX11_along_69 (by decide) ?_
      exact kt_ri () hx hb hr hlk hS dX11_along_70 hP hD (by show (p3.toInt ≤ kt_rom p1.toInt mw.toInt ml.toInt p2.toInt → 0 ≤ (-1 : Int32).toInt ∧ (-1 : Int32).toInt < ml.toInt * mw.toInt ∧ (-1 : Int32).toInt ≤ 80) ∧ (¬ p3.toInt ≤ kt_rom p1.toInt mw.toInt ml.toInt p2.toInt → (-1 : Int32).toInt = -1); first | omega | exact ⟨fun h => by exfalso; omega, fun _ => by decide⟩)
