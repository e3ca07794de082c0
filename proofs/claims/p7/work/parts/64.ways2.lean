set_option maxHeartbeats 4000000 in
set_option maxRecDepth 100000 in
theorem c_X8_fieldOfE (l : Launch) (D : va_G) (cI cZ cB : ClassId) (sz : Nat) (nw : Nat) (sf : Nat) (sh : Nat) (tu : Int32) (ff : Nat → Int32) (p1 : Int32) (hff : kt_r ff 40 (-1) 80) : kt_Mi l yX8_fieldOf wsX8_fieldOf { frames := 0, cells := 0, slots := 0, locals := 0 } D (kt_ty cI cZ cB) [.ref nw, .int p1] sz [(nw, .inr (8, [.ref sf, .ref sh, .int tu])), (sf, .inl (cI, 40, .inl ff))] (fun (r : Int32) (u : Unit) => (0 ≤ p1.toInt ∧ p1.toInt < 40 → r = ff p1.toNatClampNeg) ∧ (¬ (0 ≤ p1.toInt ∧ p1.toInt < 40) → r = -1) ∧ -1 ≤ r.toInt ∧ r.toInt ≤ 80) (fun (u : Unit) => [(nw, .inr (8, [.ref sf, .ref sh, .int tu])), (sf, .inl (cI, 40, .inl ff))]) 0 0 := by
  refine kt_Mi.of (cc := cX8_fieldOf) (maxL := 2) (ret := some .int) (by decide) rfl (Nat.le_of_ble_eq_true rfl) ?_
  intro p e s m below meth c A ls H hAt hP hD hS hl
  obtain ⟨hx, hb, hr, hml, hown, hts, hN, hK, hlk, hnm, hA⟩ := hAt
  have hl : lv_has ls 2 [(0, .ref nw), (1, .int p1)] := hl
  have hown : s.vm.findClass RX8 = some m.cls := hown
  refine lv_iload_n hx hb dX8_fieldOf_0 rfl (lv_at hl 1 rfl) ?_
  refine lv_if_lt (tgt := 19) hx hb dX8_fieldOf_1 (by decide) (fun c_1 => ?_) (fun c_1 => ?_)
  · have d_1 := c_1
    simp only [kt_lt, kt_le, kt_eq, kt_c0, kt_c1, kt_c2, kt_c3, kt_c4, kt_c8, kt_c9, kt_cm1, kt_c81, kt_c40, kt_c7, kt_c5, kt_c6, kt_c512, kt_c10, kt_c10000] at d_1
    refine lv_iconst (v := (-1)) hx hb dX8_fieldOf_19 (by decide) ?_
    exact kt_ri () hx hb hr hlk hS dX8_fieldOf_20 hP hD (by show (0 ≤ p1.toInt ∧ p1.toInt < 40 → (-1 : Int32) = ff p1.toNatClampNeg) ∧ (¬ (0 ≤ p1.toInt ∧ p1.toInt < 40) → (-1 : Int32) = -1) ∧ -1 ≤ (-1 : Int32).toInt ∧ (-1 : Int32).toInt ≤ 80; first | exact ⟨fun _ => ea_15, fun h => absurd (by omega) h, by omega⟩ | exact ⟨fun h => by exfalso; omega, fun _ => rfl, by decide⟩)
  · have d_1 := c_1
    simp only [kt_lt, kt_le, kt_eq, kt_c0, kt_c1, kt_c2, kt_c3, kt_c4, kt_c8, kt_c9, kt_cm1, kt_c81, kt_c40, kt_c7, kt_c5, kt_c6, kt_c512, kt_c10, kt_c10000] at d_1
    refine lv_iload_n hx hb dX8_fieldOf_4 rfl (lv_at hl 1 rfl) ?_
    refine lv_bipush (v := 40) hx hb dX8_fieldOf_5 (by decide) ?_
    refine lv_icmp_ge (tgt := 19) hx hb dX8_fieldOf_7 (by decide) (fun c_7 => ?_) (fun c_7 => ?_)
    · have d_7 := c_7
      simp only [kt_lt, kt_le, kt_eq, kt_c0, kt_c1, kt_c2, kt_c3, kt_c4, kt_c8, kt_c9, kt_cm1, kt_c81, kt_c40, kt_c7, kt_c5, kt_c6, kt_c512, kt_c10, kt_c10000] at d_7
      refine lv_iconst (v := (-1)) hx hb dX8_fieldOf_19 (by decide) ?_
      exact kt_ri () hx hb hr hlk hS dX8_fieldOf_20 hP hD (by show (0 ≤ p1.toInt ∧ p1.toInt < 40 → (-1 : Int32) = ff p1.toNatClampNeg) ∧ (¬ (0 ≤ p1.toInt ∧ p1.toInt < 40) → (-1 : Int32) = -1) ∧ -1 ≤ (-1 : Int32).toInt ∧ (-1 : Int32).toInt ≤ 80; first | exact ⟨fun _ => ea_15, fun h => absurd (by omega) h, by omega⟩ | exact ⟨fun h => by exfalso; omega, fun _ => rfl, by decide⟩)
    · have d_7 := c_7
      simp only [kt_lt, kt_le, kt_eq, kt_c0, kt_c1, kt_c2, kt_c3, kt_c4, kt_c8, kt_c9, kt_cm1, kt_c81, kt_c40, kt_c7, kt_c5, kt_c6, kt_c512, kt_c10, kt_c10000] at d_7
      refine lv_aload_n hx hb dX8_fieldOf_10 rfl (lv_at hl 0 rfl) ?_
      refine va_get (D := D) (ci := 8) (C := RX8) (T := TX8) (N := 3) hx hb hts iw_X8_fieldOf_X8 hown hK hP 0 rfl rfl 0 (by decide) (hts (.fieldLink RX8 9 "KingTable$Stand" "fields" "[I") (List.mem_cons_of_mem _ (List.mem_append_left _ (List.Mem.head _)))) (fun _ h9 => h9) rfl dX8_fieldOf_11 ?_
      refine lv_iload_n hx hb dX8_fieldOf_14 rfl (lv_at hl 1 rfl) ?_
      have hi_1 : vp_in p1 40 := by exact kt_in (by omega) (by omega)
      refine va_iald hx hb hK hP 1 0 rfl rfl hi_1 dX8_fieldOf_15 ?_
      refine lv_topi (fun a_15 ea_15 => ?_)
      have ra_15 := hff.get hi_1
      rw [← ea_15] at ra_15
      refine lv_goto (tgt := 20) hx hb dX8_fieldOf_16 (by decide) ?_
      exact kt_ri () hx hb hr hlk hS dX8_fieldOf_20 hP hD (by show (0 ≤ p1.toInt ∧ p1.toInt < 40 → a_15 = ff p1.toNatClampNeg) ∧ (¬ (0 ≤ p1.toInt ∧ p1.toInt < 40) → a_15 = -1) ∧ -1 ≤ a_15.toInt ∧ a_15.toInt ≤ 80; first | exact ⟨fun _ => ea_15, fun h => absurd (by omega) h, by omega⟩ | exact ⟨fun h => by exfalso; omega, fun _ => rfl, by decide⟩)

set_option maxHeartbeats 4000000 in
set_option maxRecDepth 100000 in
theorem c_X8_holderOfE (l : Launch) (D : va_G) (cI cZ cB : ClassId) (sz : Nat) (nw : Nat) (sf : Nat) (sh : Nat) (tu : Int32) (fh : Nat → Int32) (p1 : Int32) (hfh : kt_r fh 81 (-1) 39) : kt_Mi l yX8_holderOf wsX8_holderOf { frames := 0, cells := 0, slots := 0, locals := 0 } D (kt_ty cI cZ cB) [.ref nw, .int p1] sz [(nw, .inr (8, [.ref sf, .ref sh, .int tu])), (sh, .inl (cI, 81, .inl fh))] (fun (r : Int32) (u : Unit) => (0 ≤ p1.toInt ∧ p1.toInt < 81 → r = fh p1.toNatClampNeg) ∧ (¬ (0 ≤ p1.toInt ∧ p1.toInt < 81) → r = -1) ∧ -1 ≤ r.toInt ∧ r.toInt ≤ 39) (fun (u : Unit) => [(nw, .inr (8, [.ref sf, .ref sh, .int tu])), (sh, .inl (cI, 81, .inl fh))]) 0 0 := by
  refine kt_Mi.of (cc := cX8_holderOf) (maxL := 2) (ret := some .int) (by decide) rfl (Nat.le_of_ble_eq_true rfl) ?_
  intro p e s m below meth c A ls H hAt hP hD hS hl
  obtain ⟨hx, hb, hr, hml, hown, hts, hN, hK, hlk, hnm, hA⟩ := hAt
  have hl : lv_has ls 2 [(0, .ref nw), (1, .int p1)] := hl
  have hown : s.vm.findClass RX8 = some m.cls := hown
  refine lv_iload_n hx hb dX8_holderOf_0 rfl (lv_at hl 1 rfl) ?_
  refine lv_if_lt (tgt := 19) hx hb dX8_holderOf_1 (by decide) (fun c_1 => ?_) (fun c_1 => ?_)
  · have d_1 := c_1
    simp only [kt_lt, kt_le, kt_eq, kt_c0, kt_c1, kt_c2, kt_c3, kt_c4, kt_c8, kt_c9, kt_cm1, kt_c81, kt_c40, kt_c7, kt_c5, kt_c6, kt_c512, kt_c10, kt_c10000] at d_1
    refine lv_iconst (v := (-1)) hx hb dX8_holderOf_19 (by decide) ?_
    exact kt_ri () hx hb hr hlk hS dX8_holderOf_20 hP hD (by show (0 ≤ p1.toInt ∧ p1.toInt < 81 → (-1 : Int32) = fh p1.toNatClampNeg) ∧ (¬ (0 ≤ p1.toInt ∧ p1.toInt < 81) → (-1 : Int32) = -1) ∧ -1 ≤ (-1 : Int32).toInt ∧ (-1 : Int32).toInt ≤ 39; first | exact ⟨fun _ => ea_15, fun h => absurd (by omega) h, by omega⟩ | exact ⟨fun h => by exfalso; omega, fun _ => rfl, by decide⟩)
  · have d_1 := c_1
    simp only [kt_lt, kt_le, kt_eq, kt_c0, kt_c1, kt_c2, kt_c3, kt_c4, kt_c8, kt_c9, kt_cm1, kt_c81, kt_c40, kt_c7, kt_c5, kt_c6, kt_c512, kt_c10, kt_c10000] at d_1
    refine lv_iload_n hx hb dX8_holderOf_4 rfl (lv_at hl 1 rfl) ?_
    refine lv_bipush (v := 81) hx hb dX8_holderOf_5 (by decide) ?_
    refine lv_icmp_ge (tgt := 19) hx hb dX8_holderOf_7 (by decide) (fun c_7 => ?_) (fun c_7 => ?_)
    · have d_7 := c_7
      simp only [kt_lt, kt_le, kt_eq, kt_c0, kt_c1, kt_c2, kt_c3, kt_c4, kt_c8, kt_c9, kt_cm1, kt_c81, kt_c40, kt_c7, kt_c5, kt_c6, kt_c512, kt_c10, kt_c10000] at d_7
      refine lv_iconst (v := (-1)) hx hb dX8_holderOf_19 (by decide) ?_
      exact kt_ri () hx hb hr hlk hS dX8_holderOf_20 hP hD (by show (0 ≤ p1.toInt ∧ p1.toInt < 81 → (-1 : Int32) = fh p1.toNatClampNeg) ∧ (¬ (0 ≤ p1.toInt ∧ p1.toInt < 81) → (-1 : Int32) = -1) ∧ -1 ≤ (-1 : Int32).toInt ∧ (-1 : Int32).toInt ≤ 39; first | exact ⟨fun _ => ea_15, fun h => absurd (by omega) h, by omega⟩ | exact ⟨fun h => by exfalso; omega, fun _ => rfl, by decide⟩)
    · have d_7 := c_7
      simp only [kt_lt, kt_le, kt_eq, kt_c0, kt_c1, kt_c2, kt_c3, kt_c4, kt_c8, kt_c9, kt_cm1, kt_c81, kt_c40, kt_c7, kt_c5, kt_c6, kt_c512, kt_c10, kt_c10000] at d_7
      refine lv_aload_n hx hb dX8_holderOf_10 rfl (lv_at hl 0 rfl) ?_
      refine va_get (D := D) (ci := 8) (C := RX8) (T := TX8) (N := 3) hx hb hts iw_X8_holderOf_X8 hown hK hP 0 rfl rfl 1 (by decide) (hts (.fieldLink RX8 15 "KingTable$Stand" "holders" "[I") (List.mem_cons_of_mem _ (List.mem_append_left _ (List.Mem.head _)))) (fun _ h9 => h9) rfl dX8_holderOf_11 ?_
      refine lv_iload_n hx hb dX8_holderOf_14 rfl (lv_at hl 1 rfl) ?_
      have hi_1 : vp_in p1 81 := by exact kt_in (by omega) (by omega)
      refine va_iald hx hb hK hP 1 0 rfl rfl hi_1 dX8_holderOf_15 ?_
      refine lv_topi (fun a_15 ea_15 => ?_)
      have ra_15 := hfh.get hi_1
      rw [← ea_15] at ra_15
      refine lv_goto (tgt := 20) hx hb dX8_holderOf_16 (by decide) ?_
      exact kt_ri () hx hb hr hlk hS dX8_holderOf_20 hP hD (by show (0 ≤ p1.toInt ∧ p1.toInt < 81 → a_15 = fh p1.toNatClampNeg) ∧ (¬ (0 ≤ p1.toInt ∧ p1.toInt < 81) → a_15 = -1) ∧ -1 ≤ a_15.toInt ∧ a_15.toInt ≤ 39; first | exact ⟨fun _ => ea_15, fun h => absurd (by omega) h, by omega⟩ | exact ⟨fun h => by exfalso; omega, fun _ => rfl, by decide⟩)

set_option maxHeartbeats 4000000 in
set_option maxRecDepth 100000 in
theorem c_X6_bearsE (l : Launch) (D : va_G) (cI cZ cB : ClassId) (sz : Nat) (ru : Nat) (la : Nat) (gr : Nat) (rk : Nat) (rs : Nat) (rt : Nat) (rv : Nat) (tt : Int32) (kg : Int32) (vc : Int32) (gt : Nat) (gg : Nat) (gn : Nat) (gs : Int32) (gm : Int32) (tg : Nat → Int32) (p1 : Int32) (p2 : Int32) (hgs : 0 ≤ gs.toInt ∧ gs.toInt ≤ 81) (hgt : kt_r tg 81 0 2) : kt_Mi l yX6_bears wsX6_bears { frames := 0, cells := 0, slots := 0, locals := 0 } D (kt_ty cI cZ cB) [.ref ru, .int p1, .int p2] sz [(ru, .inr (6, [.ref la, .ref gr, .ref rk, .ref rs, .ref rt, .int tt, .int kg, .ref rv, .int vc])), (gr, .inr (0, [.ref gt, .ref gg, .ref gn, .int gs, .int gm])), (gt, .inl (cI, 81, .inl tg))] (fun (r : Int32) (u : Unit) => kt_B r (p2 = kg ∨ (0 ≤ p1.toInt ∧ p1.toInt < gs.toInt ∧ tg p1.toNatClampNeg = 0))) (fun (u : Unit) => [(ru, .inr (6, [.ref la, .ref gr, .ref rk, .ref rs, .ref rt, .int tt, .int kg, .ref rv, .int vc])), (gr, .inr (0, [.ref gt, .ref gg, .ref gn, .int gs, .int gm])), (gt, .inl (cI, 81, .inl tg))]) 0 0 := by
  refine kt_Mi.of (cc := cX6_bears) (maxL := 3) (ret := some .boolean) (by decide) rfl (Nat.le_of_ble_eq_true rfl) ?_
  intro p e s m below meth c A ls H hAt hP hD hS hl
  obtain ⟨hx, hb, hr, hml, hown, hts, hN, hK, hlk, hnm, hA⟩ := hAt
  have hl : lv_has ls 3 [(0, .ref ru), (1, .int p1), (2, .int p2)] := hl
  have hown : s.vm.findClass RX6 = some m.cls := hown
  refine lv_iload_n hx hb dX6_bears_0 rfl (lv_at hl 2 rfl) ?_
  refine lv_aload_n hx hb dX6_bears_1 rfl (lv_at hl 0 rfl) ?_
  refine va_get (D := D) (ci := 6) (C := RX6) (T := TX6) (N := 9) hx hb hts iw_X6_bears_X6 hown hK hP 0 rfl rfl 6 (by decide) (hts (.fieldLink RX6 29 "KingTable$Rules" "king" "I") (List.mem_cons_of_mem _ (List.mem_append_left _ (List.mem_append_left _ (List.Mem.head _))))) (fun _ h9 => h9) rfl dX6_bears_2 ?_
  refine lv_icmp_eq (tgt := 35) hx hb dX6_bears_5 (by decide) (fun c_5 => ?_) (fun c_5 => ?_)
  · have d_5 := c_5
    simp only [kt_lt, kt_le, kt_eq, kt_c0, kt_c1, kt_c2, kt_c3, kt_c4, kt_c8, kt_c9, kt_cm1, kt_c81, kt_c40, kt_c7, kt_c5, kt_c6, kt_c512, kt_c10, kt_c10000] at d_5
    refine lv_iconst (v := 1) hx hb dX6_bears_35 (by decide) ?_
    refine lv_goto (tgt := 40) hx hb dX6_bears_36 (by decide) ?_
    exact kt_rz () hx hb hr hlk hS dX6_bears_40 hP hD (by show kt_B (1 : Int32) (p2 = kg ∨ (0 ≤ p1.toInt ∧ p1.toInt < gs.toInt ∧ tg p1.toNatClampNeg = 0)); first | exact Or.inl ⟨rfl, Or.inl c_5⟩ | exact Or.inl ⟨rfl, Or.inr ⟨by omega, by omega, ea_31.symm.trans c_32⟩⟩ | exact Or.inr ⟨rfl, fun h => h.elim c_5 (fun h => by omega)⟩ | exact Or.inr ⟨rfl, fun h => h.elim c_5 (fun h => c_32 (ea_31.trans h.2.2))⟩) rfl
  · have d_5 := c_5
    simp only [kt_lt, kt_le, kt_eq, kt_c0, kt_c1, kt_c2, kt_c3, kt_c4, kt_c8, kt_c9, kt_cm1, kt_c81, kt_c40, kt_c7, kt_c5, kt_c6, kt_c512, kt_c10, kt_c10000] at d_5
    refine lv_iload_n hx hb dX6_bears_8 rfl (lv_at hl 1 rfl) ?_
    refine lv_if_lt (tgt := 39) hx hb dX6_bears_9 (by decide) (fun c_9 => ?_) (fun c_9 => ?_)
    · have d_9 := c_9
      simp only [kt_lt, kt_le, kt_eq, kt_c0, kt_c1, kt_c2, kt_c3, kt_c4, kt_c8, kt_c9, kt_cm1, kt_c81, kt_c40, kt_c7, kt_c5, kt_c6, kt_c512, kt_c10, kt_c10000] at d_9
      refine lv_iconst (v := 0) hx hb dX6_bears_39 (by decide) ?_
      exact kt_rz () hx hb hr hlk hS dX6_bears_40 hP hD (by show kt_B (0 : Int32) (p2 = kg ∨ (0 ≤ p1.toInt ∧ p1.toInt < gs.toInt ∧ tg p1.toNatClampNeg = 0)); first | exact Or.inl ⟨rfl, Or.inl c_5⟩ | exact Or.inl ⟨rfl, Or.inr ⟨by omega, by omega, ea_31.symm.trans c_32⟩⟩ | exact Or.inr ⟨rfl, fun h => h.elim c_5 (fun h => by omega)⟩ | exact Or.inr ⟨rfl, fun h => h.elim c_5 (fun h => c_32 (ea_31.trans h.2.2))⟩) rfl
    · have d_9 := c_9
      simp only [kt_lt, kt_le, kt_eq, kt_c0, kt_c1, kt_c2, kt_c3, kt_c4, kt_c8, kt_c9, kt_cm1, kt_c81, kt_c40, kt_c7, kt_c5, kt_c6, kt_c512, kt_c10, kt_c10000] at d_9
      refine lv_iload_n hx hb dX6_bears_12 rfl (lv_at hl 1 rfl) ?_
      refine lv_aload_n hx hb dX6_bears_13 rfl (lv_at hl 0 rfl) ?_
      refine va_get (D := D) (ci := 6) (C := RX6) (T := TX6) (N := 9) hx hb hts iw_X6_bears_X6 hown hK hP 0 rfl rfl 1 (by decide) (hts (.fieldLink RX6 12 "KingTable$Rules" "ground" "LKingTable$Ground;") (List.mem_cons_of_mem _ (List.mem_append_left _ (List.mem_append_left _ (List.mem_cons_of_mem _ (List.Mem.head _)))))) (fun _ h9 => h9) rfl dX6_bears_14 ?_
      refine va_getN (D := D) (ci := 0) (C := RX0) (T := TX0) (N := 5) hx hb hts iw_X6_bears_X0 hown hK hP 1 rfl rfl 3 (by decide) (va_Nw.use (w := .fieldLinkNest RX6 49 "KingTable$Ground" "size" "I" "KingTable") rfl (hN _ (by decide +kernel))) (fun _ h9 => h9) rfl dX6_bears_17 ?_
      refine lv_icmp_ge (tgt := 39) hx hb dX6_bears_20 (by decide) (fun c_20 => ?_) (fun c_20 => ?_)
      · have d_20 := c_20
        simp only [kt_lt, kt_le, kt_eq, kt_c0, kt_c1, kt_c2, kt_c3, kt_c4, kt_c8, kt_c9, kt_cm1, kt_c81, kt_c40, kt_c7, kt_c5, kt_c6, kt_c512, kt_c10, kt_c10000] at d_20
        refine lv_iconst (v := 0) hx hb dX6_bears_39 (by decide) ?_
        exact kt_rz () hx hb hr hlk hS dX6_bears_40 hP hD (by show kt_B (0 : Int32) (p2 = kg ∨ (0 ≤ p1.toInt ∧ p1.toInt < gs.toInt ∧ tg p1.toNatClampNeg = 0)); first | exact Or.inl ⟨rfl, Or.inl c_5⟩ | exact Or.inl ⟨rfl, Or.inr ⟨by omega, by omega, ea_31.symm.trans c_32⟩⟩ | exact Or.inr ⟨rfl, fun h => h.elim c_5 (fun h => by omega)⟩ | exact Or.inr ⟨rfl, fun h => h.elim c_5 (fun h => c_32 (ea_31.trans h.2.2))⟩) rfl
      · have d_20 := c_20
        simp only [kt_lt, kt_le, kt_eq, kt_c0, kt_c1, kt_c2, kt_c3, kt_c4, kt_c8, kt_c9, kt_cm1, kt_c81, kt_c40, kt_c7, kt_c5, kt_c6, kt_c512, kt_c10, kt_c10000] at d_20
        refine lv_aload_n hx hb dX6_bears_23 rfl (lv_at hl 0 rfl) ?_
        refine va_get (D := D) (ci := 6) (C := RX6) (T := TX6) (N := 9) hx hb hts iw_X6_bears_X6 hown hK hP 0 rfl rfl 1 (by decide) (hts (.fieldLink RX6 12 "KingTable$Rules" "ground" "LKingTable$Ground;") (List.mem_cons_of_mem _ (List.mem_append_left _ (List.mem_append_left _ (List.mem_cons_of_mem _ (List.Mem.head _)))))) (fun _ h9 => h9) rfl dX6_bears_24 ?_
        refine va_getN (D := D) (ci := 0) (C := RX0) (T := TX0) (N := 5) hx hb hts iw_X6_bears_X0 hown hK hP 1 rfl rfl 0 (by decide) (va_Nw.use (w := .fieldLinkNest RX6 52 "KingTable$Ground" "types" "[I" "KingTable") rfl (hN _ (by decide +kernel))) (fun _ h9 => h9) rfl dX6_bears_27 ?_
        refine lv_iload_n hx hb dX6_bears_30 rfl (lv_at hl 1 rfl) ?_
        have hi_1 : vp_in p1 81 := by exact kt_in (by omega) (by omega)
        refine va_iald hx hb hK hP 2 0 rfl rfl hi_1 dX6_bears_31 ?_
        refine lv_topi (fun a_31 ea_31 => ?_)
        have ra_31 := hgt.get hi_1
        rw [← ea_31] at ra_31
        refine lv_if_ne (tgt := 39) hx hb dX6_bears_32 (by decide) (fun c_32 => ?_) (fun c_32 => ?_)
        · have d_32 := c_32
          simp only [kt_lt, kt_le, kt_eq, kt_c0, kt_c1, kt_c2, kt_c3, kt_c4, kt_c8, kt_c9, kt_cm1, kt_c81, kt_c40, kt_c7, kt_c5, kt_c6, kt_c512, kt_c10, kt_c10000] at d_32
          refine lv_iconst (v := 0) hx hb dX6_bears_39 (by decide) ?_
          exact kt_rz () hx hb hr hlk hS dX6_bears_40 hP hD (by show kt_B (0 : Int32) (p2 = kg ∨ (0 ≤ p1.toInt ∧ p1.toInt < gs.toInt ∧ tg p1.toNatClampNeg = 0)); first | exact Or.inl ⟨rfl, Or.inl c_5⟩ | exact Or.inl ⟨rfl, Or.inr ⟨by omega, by omega, ea_31.symm.trans c_32⟩⟩ | exact Or.inr ⟨rfl, fun h => h.elim c_5 (fun h => by omega)⟩ | exact Or.inr ⟨rfl, fun h => h.elim c_5 (fun h => c_32 (ea_31.trans h.2.2))⟩) rfl
        · have d_32 := c_32
          simp only [kt_lt, kt_le, kt_eq, kt_c0, kt_c1, kt_c2, kt_c3, kt_c4, kt_c8, kt_c9, kt_cm1, kt_c81, kt_c40, kt_c7, kt_c5, kt_c6, kt_c512, kt_c10, kt_c10000] at d_32
          refine lv_iconst (v := 1) hx hb dX6_bears_35 (by decide) ?_
          refine lv_goto (tgt := 40) hx hb dX6_bears_36 (by decide) ?_
          exact kt_rz () hx hb hr hlk hS dX6_bears_40 hP hD (by show kt_B (1 : Int32) (p2 = kg ∨ (0 ≤ p1.toInt ∧ p1.toInt < gs.toInt ∧ tg p1.toNatClampNeg = 0)); first | exact Or.inl ⟨rfl, Or.inl c_5⟩ | exact Or.inl ⟨rfl, Or.inr ⟨by omega, by omega, ea_31.symm.trans c_32⟩⟩ | exact Or.inr ⟨rfl, fun h => h.elim c_5 (fun h => by omega)⟩ | exact Or.inr ⟨rfl, fun h => h.elim c_5 (fun h => c_32 (ea_31.trans h.2.2))⟩) rfl

set_option maxHeartbeats 4000000 in
set_option maxRecDepth 100000 in
theorem c_X6_isGoalE (l : Launch) (D : va_G) (cI cZ cB : ClassId) (sz : Nat) (ru : Nat) (la : Nat) (gr : Nat) (rk : Nat) (rs : Nat) (rt : Nat) (rv : Nat) (tt : Int32) (kg : Int32) (vc : Int32) (gt : Nat) (gg : Nat) (gn : Nat) (gs : Int32) (gm : Int32) (gl : Nat → Int32) (p1 : Int32) (hgs : 0 ≤ gs.toInt ∧ gs.toInt ≤ 81) (hgg : kt_r gl 81 0 1) : kt_Mi l yX6_isGoal wsX6_isGoal { frames := 0, cells := 0, slots := 0, locals := 0 } D (kt_ty cI cZ cB) [.ref ru, .int p1] sz [(ru, .inr (6, [.ref la, .ref gr, .ref rk, .ref rs, .ref rt, .int tt, .int kg, .ref rv, .int vc])), (gr, .inr (0, [.ref gt, .ref gg, .ref gn, .int gs, .int gm])), (gg, .inl (cZ, 81, .inl gl))] (fun (r : Int32) (u : Unit) => kt_B r (0 ≤ p1.toInt ∧ p1.toInt < gs.toInt ∧ ¬ gl p1.toNatClampNeg = 0)) (fun (u : Unit) => [(ru, .inr (6, [.ref la, .ref gr, .ref rk, .ref rs, .ref rt, .int tt, .int kg, .ref rv, .int vc])), (gr, .inr (0, [.ref gt, .ref gg, .ref gn, .int gs, .int gm])), (gg, .inl (cZ, 81, .inl gl))]) 0 0 := by
  refine kt_Mi.of (cc := cX6_isGoal) (maxL := 2) (ret := some .boolean) (by decide) rfl (Nat.le_of_ble_eq_true rfl) ?_
  intro p e s m below meth c A ls H hAt hP hD hS hl
  obtain ⟨hx, hb, hr, hml, hown, hts, hN, hK, hlk, hnm, hA⟩ := hAt
  have hl : lv_has ls 2 [(0, .ref ru), (1, .int p1)] := hl
  have hown : s.vm.findClass RX6 = some m.cls := hown
  refine lv_iload_n hx hb dX6_isGoal_0 rfl (lv_at hl 1 rfl) ?_
  refine lv_if_lt (tgt := 31) hx hb dX6_isGoal_1 (by decide) (fun c_1 => ?_) (fun c_1 => ?_)
  · have d_1 := c_1
    simp only [kt_lt, kt_le, kt_eq, kt_c0, kt_c1, kt_c2, kt_c3, kt_c4, kt_c8, kt_c9, kt_cm1, kt_c81, kt_c40, kt_c7, kt_c5, kt_c6, kt_c512, kt_c10, kt_c10000] at d_1
    refine lv_iconst (v := 0) hx hb dX6_isGoal_31 (by decide) ?_
    exact kt_rz () hx hb hr hlk hS dX6_isGoal_32 hP hD (by show kt_B (0 : Int32) (0 ≤ p1.toInt ∧ p1.toInt < gs.toInt ∧ ¬ gl p1.toNatClampNeg = 0); first | exact Or.inl ⟨rfl, by omega, by omega, fun h => c_24 (ea_23.trans h)⟩ | exact Or.inr ⟨rfl, fun h => by omega⟩ | exact Or.inr ⟨rfl, fun h => h.2.2 (ea_23.symm.trans c_24)⟩) rfl
  · have d_1 := c_1
    simp only [kt_lt, kt_le, kt_eq, kt_c0, kt_c1, kt_c2, kt_c3, kt_c4, kt_c8, kt_c9, kt_cm1, kt_c81, kt_c40, kt_c7, kt_c5, kt_c6, kt_c512, kt_c10, kt_c10000] at d_1
    refine lv_iload_n hx hb dX6_isGoal_4 rfl (lv_at hl 1 rfl) ?_
    refine lv_aload_n hx hb dX6_isGoal_5 rfl (lv_at hl 0 rfl) ?_
    refine va_get (D := D) (ci := 6) (C := RX6) (T := TX6) (N := 9) hx hb hts iw_X6_isGoal_X6 hown hK hP 0 rfl rfl 1 (by decide) (hts (.fieldLink RX6 12 "KingTable$Rules" "ground" "LKingTable$Ground;") (List.mem_cons_of_mem _ (List.mem_append_left _ (List.mem_append_left _ (List.Mem.head _))))) (fun _ h9 => h9) rfl dX6_isGoal_6 ?_
    refine va_getN (D := D) (ci := 0) (C := RX0) (T := TX0) (N := 5) hx hb hts iw_X6_isGoal_X0 hown hK hP 1 rfl rfl 3 (by decide) (va_Nw.use (w := .fieldLinkNest RX6 49 "KingTable$Ground" "size" "I" "KingTable") rfl (hN _ (by decide +kernel))) (fun _ h9 => h9) rfl dX6_isGoal_9 ?_
    refine lv_icmp_ge (tgt := 31) hx hb dX6_isGoal_12 (by decide) (fun c_12 => ?_) (fun c_12 => ?_)
    · have d_12 := c_12
      simp only [kt_lt, kt_le, kt_eq, kt_c0, kt_c1, kt_c2, kt_c3, kt_c4, kt_c8, kt_c9, kt_cm1, kt_c81, kt_c40, kt_c7, kt_c5, kt_c6, kt_c512, kt_c10, kt_c10000] at d_12
      refine lv_iconst (v := 0) hx hb dX6_isGoal_31 (by decide) ?_
      exact kt_rz () hx hb hr hlk hS dX6_isGoal_32 hP hD (by show kt_B (0 : Int32) (0 ≤ p1.toInt ∧ p1.toInt < gs.toInt ∧ ¬ gl p1.toNatClampNeg = 0); first | exact Or.inl ⟨rfl, by omega, by omega, fun h => c_24 (ea_23.trans h)⟩ | exact Or.inr ⟨rfl, fun h => by omega⟩ | exact Or.inr ⟨rfl, fun h => h.2.2 (ea_23.symm.trans c_24)⟩) rfl
    · have d_12 := c_12
      simp only [kt_lt, kt_le, kt_eq, kt_c0, kt_c1, kt_c2, kt_c3, kt_c4, kt_c8, kt_c9, kt_cm1, kt_c81, kt_c40, kt_c7, kt_c5, kt_c6, kt_c512, kt_c10, kt_c10000] at d_12
      refine lv_aload_n hx hb dX6_isGoal_15 rfl (lv_at hl 0 rfl) ?_
      refine va_get (D := D) (ci := 6) (C := RX6) (T := TX6) (N := 9) hx hb hts iw_X6_isGoal_X6 hown hK hP 0 rfl rfl 1 (by decide) (hts (.fieldLink RX6 12 "KingTable$Rules" "ground" "LKingTable$Ground;") (List.mem_cons_of_mem _ (List.mem_append_left _ (List.mem_append_left _ (List.Mem.head _))))) (fun _ h9 => h9) rfl dX6_isGoal_16 ?_
      refine va_getN (D := D) (ci := 0) (C := RX0) (T := TX0) (N := 5) hx hb hts iw_X6_isGoal_X0 hown hK hP 1 rfl rfl 1 (by decide) (va_Nw.use (w := .fieldLinkNest RX6 55 "KingTable$Ground" "goals" "[Z" "KingTable") rfl (hN _ (by decide +kernel))) (fun _ h9 => h9) rfl dX6_isGoal_19 ?_
      refine lv_iload_n hx hb dX6_isGoal_22 rfl (lv_at hl 1 rfl) ?_
      have hi_1 : vp_in p1 81 := by exact kt_in (by omega) (by omega)
      refine va_zald hx hb hK hP 2 1 rfl rfl hi_1 dX6_isGoal_23 ?_
      refine lv_topi (fun a_23 ea_23 => ?_)
      have ra_23 := hgg.get hi_1
      rw [← ea_23] at ra_23
      refine lv_if_eq (tgt := 31) hx hb dX6_isGoal_24 (by decide) (fun c_24 => ?_) (fun c_24 => ?_)
      · have d_24 := c_24
        simp only [kt_lt, kt_le, kt_eq, kt_c0, kt_c1, kt_c2, kt_c3, kt_c4, kt_c8, kt_c9, kt_cm1, kt_c81, kt_c40, kt_c7, kt_c5, kt_c6, kt_c512, kt_c10, kt_c10000] at d_24
        refine lv_iconst (v := 0) hx hb dX6_isGoal_31 (by decide) ?_
        exact kt_rz () hx hb hr hlk hS dX6_isGoal_32 hP hD (by show kt_B (0 : Int32) (0 ≤ p1.toInt ∧ p1.toInt < gs.toInt ∧ ¬ gl p1.toNatClampNeg = 0); first | exact Or.inl ⟨rfl, by omega, by omega, fun h => c_24 (ea_23.trans h)⟩ | exact Or.inr ⟨rfl, fun h => by omega⟩ | exact Or.inr ⟨rfl, fun h => h.2.2 (ea_23.symm.trans c_24)⟩) rfl
      · have d_24 := c_24
        simp only [kt_lt, kt_le, kt_eq, kt_c0, kt_c1, kt_c2, kt_c3, kt_c4, kt_c8, kt_c9, kt_cm1, kt_c81, kt_c40, kt_c7, kt_c5, kt_c6, kt_c512, kt_c10, kt_c10000] at d_24
        refine lv_iconst (v := 1) hx hb dX6_isGoal_27 (by decide) ?_
        refine lv_goto (tgt := 32) hx hb dX6_isGoal_28 (by decide) ?_
        exact kt_rz () hx hb hr hlk hS dX6_isGoal_32 hP hD (by show kt_B (1 : Int32) (0 ≤ p1.toInt ∧ p1.toInt < gs.toInt ∧ ¬ gl p1.toNatClampNeg = 0); first | exact Or.inl ⟨rfl, by omega, by omega, fun h => c_24 (ea_23.trans h)⟩ | exact Or.inr ⟨rfl, fun h => by omega⟩ | exact Or.inr ⟨rfl, fun h => h.2.2 (ea_23.symm.trans c_24)⟩) rfl

set_option maxHeartbeats 4000000 in
set_option maxRecDepth 100000 in
theorem c_X6_isBeyondReachE (l : Launch) (D : va_G) (cI cZ cB : ClassId) (sz : Nat) (ru : Nat) (la : Nat) (gr : Nat) (rk : Nat) (rs : Nat) (rt : Nat) (rv : Nat) (tt : Int32) (kg : Int32) (vc : Int32) (lg : Int32) (lh : Int32) (lt : Int32) (lr : Int32) (lc : Int32) (p1 : Int32) (p2 : Int32) : kt_Mi l yX6_isBeyondReach wsX6_isBeyondReach { frames := 0, cells := 0, slots := 0, locals := 0 } D (kt_ty cI cZ cB) [.ref ru, .int p1, .int p2] sz [(ru, .inr (6, [.ref la, .ref gr, .ref rk, .ref rs, .ref rt, .int tt, .int kg, .ref rv, .int vc])), (la, .inr (1, [.int lg, .int lh, .int lt, .int lr, .int lc]))] (fun (r : Int32) (u : Unit) => kt_B r (p1 = kg ∧ 0 < lr.toInt ∧ lr.toInt < p2.toInt)) (fun (u : Unit) => [(ru, .inr (6, [.ref la, .ref gr, .ref rk, .ref rs, .ref rt, .int tt, .int kg, .ref rv, .int vc])), (la, .inr (1, [.int lg, .int lh, .int lt, .int lr, .int lc]))]) 0 0 := by
  refine kt_Mi.of (cc := cX6_isBeyondReach) (maxL := 3) (ret := some .boolean) (by decide) rfl (Nat.le_of_ble_eq_true rfl) ?_
  intro p e s m below meth c A ls H hAt hP hD hS hl
  obtain ⟨hx, hb, hr, hml, hown, hts, hN, hK, hlk, hnm, hA⟩ := hAt
  have hl : lv_has ls 3 [(0, .ref ru), (1, .int p1), (2, .int p2)] := hl
  have hown : s.vm.findClass RX6 = some m.cls := hown
  refine lv_iload_n hx hb dX6_isBeyondReach_0 rfl (lv_at hl 1 rfl) ?_
  refine lv_aload_n hx hb dX6_isBeyondReach_1 rfl (lv_at hl 0 rfl) ?_
  refine va_get (D := D) (ci := 6) (C := RX6) (T := TX6) (N := 9) hx hb hts iw_X6_isBeyondReach_X6 hown hK hP 0 rfl rfl 6 (by decide) (hts (.fieldLink RX6 29 "KingTable$Rules" "king" "I") (List.mem_cons_of_mem _ (List.mem_append_left _ (List.mem_append_left _ (List.Mem.head _))))) (fun _ h9 => h9) rfl dX6_isBeyondReach_2 ?_
  refine lv_icmp_ne (tgt := 33) hx hb dX6_isBeyondReach_5 (by decide) (fun c_5 => ?_) (fun c_5 => ?_)
  · have d_5 := c_5
    simp only [kt_lt, kt_le, kt_eq, kt_c0, kt_c1, kt_c2, kt_c3, kt_c4, kt_c8, kt_c9, kt_cm1, kt_c81, kt_c40, kt_c7, kt_c5, kt_c6, kt_c512, kt_c10, kt_c10000] at d_5
    refine lv_iconst (v := 0) hx hb dX6_isBeyondReach_33 (by decide) ?_
    exact kt_rz () hx hb hr hlk hS dX6_isBeyondReach_34 hP hD (by show kt_B (0 : Int32) (p1 = kg ∧ 0 < lr.toInt ∧ lr.toInt < p2.toInt); first | exact Or.inl ⟨rfl, c_5, by omega, by omega⟩ | exact Or.inr ⟨rfl, fun h => c_5 h.1⟩ | exact Or.inr ⟨rfl, fun h => by omega⟩) rfl
  · have d_5 := c_5
    simp only [kt_lt, kt_le, kt_eq, kt_c0, kt_c1, kt_c2, kt_c3, kt_c4, kt_c8, kt_c9, kt_cm1, kt_c81, kt_c40, kt_c7, kt_c5, kt_c6, kt_c512, kt_c10, kt_c10000] at d_5
    refine lv_aload_n hx hb dX6_isBeyondReach_8 rfl (lv_at hl 0 rfl) ?_
    refine va_get (D := D) (ci := 6) (C := RX6) (T := TX6) (N := 9) hx hb hts iw_X6_isBeyondReach_X6 hown hK hP 0 rfl rfl 0 (by decide) (hts (.fieldLink RX6 36 "KingTable$Rules" "laws" "LKingTable$Laws;") (List.mem_cons_of_mem _ (List.mem_append_left _ (List.mem_append_left _ (List.mem_cons_of_mem _ (List.Mem.head _)))))) (fun _ h9 => h9) rfl dX6_isBeyondReach_9 ?_
    refine va_getN (D := D) (ci := 1) (C := RX1) (T := TX1) (N := 5) hx hb hts iw_X6_isBeyondReach_X1 hown hK hP 1 rfl rfl 3 (by decide) (va_Nw.use (w := .fieldLinkNest RX6 58 "KingTable$Laws" "reach" "I" "KingTable") rfl (hN _ (by decide +kernel))) (fun _ h9 => h9) rfl dX6_isBeyondReach_12 ?_
    refine lv_if_le (tgt := 33) hx hb dX6_isBeyondReach_15 (by decide) (fun c_15 => ?_) (fun c_15 => ?_)
    · have d_15 := c_15
      simp only [kt_lt, kt_le, kt_eq, kt_c0, kt_c1, kt_c2, kt_c3, kt_c4, kt_c8, kt_c9, kt_cm1, kt_c81, kt_c40, kt_c7, kt_c5, kt_c6, kt_c512, kt_c10, kt_c10000] at d_15
      refine lv_iconst (v := 0) hx hb dX6_isBeyondReach_33 (by decide) ?_
      exact kt_rz () hx hb hr hlk hS dX6_isBeyondReach_34 hP hD (by show kt_B (0 : Int32) (p1 = kg ∧ 0 < lr.toInt ∧ lr.toInt < p2.toInt); first | exact Or.inl ⟨rfl, c_5, by omega, by omega⟩ | exact Or.inr ⟨rfl, fun h => c_5 h.1⟩ | exact Or.inr ⟨rfl, fun h => by omega⟩) rfl
    · have d_15 := c_15
      simp only [kt_lt, kt_le, kt_eq, kt_c0, kt_c1, kt_c2, kt_c3, kt_c4, kt_c8, kt_c9, kt_cm1, kt_c81, kt_c40, kt_c7, kt_c5, kt_c6, kt_c512, kt_c10, kt_c10000] at d_15
      refine lv_iload_n hx hb dX6_isBeyondReach_18 rfl (lv_at hl 2 rfl) ?_
      refine lv_aload_n hx hb dX6_isBeyondReach_19 rfl (lv_at hl 0 rfl) ?_
      refine va_get (D := D) (ci := 6) (C := RX6) (T := TX6) (N := 9) hx hb hts iw_X6_isBeyondReach_X6 hown hK hP 0 rfl rfl 0 (by decide) (hts (.fieldLink RX6 36 "KingTable$Rules" "laws" "LKingTable$Laws;") (List.mem_cons_of_mem _ (List.mem_append_left _ (List.mem_append_left _ (List.mem_cons_of_mem _ (List.Mem.head _)))))) (fun _ h9 => h9) rfl dX6_isBeyondReach_20 ?_
      refine va_getN (D := D) (ci := 1) (C := RX1) (T := TX1) (N := 5) hx hb hts iw_X6_isBeyondReach_X1 hown hK hP 1 rfl rfl 3 (by decide) (va_Nw.use (w := .fieldLinkNest RX6 58 "KingTable$Laws" "reach" "I" "KingTable") rfl (hN _ (by decide +kernel))) (fun _ h9 => h9) rfl dX6_isBeyondReach_23 ?_
      refine lv_icmp_le (tgt := 33) hx hb dX6_isBeyondReach_26 (by decide) (fun c_26 => ?_) (fun c_26 => ?_)
      · have d_26 := c_26
        simp only [kt_lt, kt_le, kt_eq, kt_c0, kt_c1, kt_c2, kt_c3, kt_c4, kt_c8, kt_c9, kt_cm1, kt_c81, kt_c40, kt_c7, kt_c5, kt_c6, kt_c512, kt_c10, kt_c10000] at d_26
        refine lv_iconst (v := 0) hx hb dX6_isBeyondReach_33 (by decide) ?_
        exact kt_rz () hx hb hr hlk hS dX6_isBeyondReach_34 hP hD (by show kt_B (0 : Int32) (p1 = kg ∧ 0 < lr.toInt ∧ lr.toInt < p2.toInt); first | exact Or.inl ⟨rfl, c_5, by omega, by omega⟩ | exact Or.inr ⟨rfl, fun h => c_5 h.1⟩ | exact Or.inr ⟨rfl, fun h => by omega⟩) rfl
      · have d_26 := c_26
        simp only [kt_lt, kt_le, kt_eq, kt_c0, kt_c1, kt_c2, kt_c3, kt_c4, kt_c8, kt_c9, kt_cm1, kt_c81, kt_c40, kt_c7, kt_c5, kt_c6, kt_c512, kt_c10, kt_c10000] at d_26
        refine lv_iconst (v := 1) hx hb dX6_isBeyondReach_29 (by decide) ?_
        refine lv_goto (tgt := 34) hx hb dX6_isBeyondReach_30 (by decide) ?_
        exact kt_rz () hx hb hr hlk hS dX6_isBeyondReach_34 hP hD (by show kt_B (1 : Int32) (p1 = kg ∧ 0 < lr.toInt ∧ lr.toInt < p2.toInt); first | exact Or.inl ⟨rfl, c_5, by omega, by omega⟩ | exact Or.inr ⟨rfl, fun h => c_5 h.1⟩ | exact Or.inr ⟨rfl, fun h => by omega⟩) rfl

set_option maxHeartbeats 4000000 in
set_option maxRecDepth 100000 in
theorem c_X0_awayE (l : Launch) (D : va_G) (cI cZ cB : ClassId) (sz : Nat) (gr : Nat) (gt : Nat) (gg : Nat) (gn : Nat) (gs : Int32) (gm : Int32) (nb : Nat → Int32) (w_ : Int) (L_ : Int) (p1 : Int32) (p2 : Int32) (p3 : Int32) (hgs : 0 ≤ gs.toInt ∧ gs.toInt ≤ 81) (hnb : kt_r nb 324 (-1) 80) (hgx : gs.toInt = L_ * w_ ∧ (2 ≤ w_ ∧ w_ ≤ 9) ∧ (2 ≤ L_ ∧ L_ ≤ 9)) (hnx : ∀ f : Nat, (f : Int) < L_ * w_ → ∀ a : Nat, a < 4 → (nb (4 * f + a)).toInt = kt_al (f : Int) w_ L_ a 1) (hp1 : 0 ≤ p1.toInt ∧ p1.toInt < L_ * w_) (hp2 : 0 ≤ p2.toInt ∧ p2.toInt < 4) (hp3 : 1 ≤ p3.toInt) : kt_Mi l yX0_away wsX0_away { frames := 1, cells := 0, slots := 0, locals := 23 } D (kt_ty cI cZ cB) [.ref gr, .int p1, .int p2, .int p3] sz [(gr, .inr (0, [.ref gt, .ref gg, .ref gn, .int gs, .int gm])), (gn, .inl (cI, 324, .inl nb))] (fun (r : Int32) (u : Unit) => r.toInt = kt_al p1.toInt w_ L_ p2.toInt p3.toInt) (fun (u : Unit) => [(gr, .inr (0, [.ref gt, .ref gg, .ref gn, .int gs, .int gm])), (gn, .inl (cI, 324, .inl nb))]) 0 0 := by
  refine kt_Mi.of (cc := cX0_away) (maxL := 6) (ret := some .int) (by decide) rfl (Nat.le_of_ble_eq_true rfl) ?_
  intro p e s m below meth c A ls H hAt hP hD hS hl
  obtain ⟨hx, hb, hr, hml, hown, hts, hN, hK, hlk, hnm, hA⟩ := hAt
  have hl : lv_has ls 6 [(0, .ref gr), (1, .int p1), (2, .int p2), (3, .int p3)] := hl
  have hown : s.vm.findClass RX0 = some m.cls := hown
  have hrb := kt_rom_b (a := p2.toInt) hgx.2.1 hgx.2.2 hp1
  have hgx1 := hgx.1
  refine lv_iload_n hx hb dX0_away_0 rfl (lv_at hl 3 rfl) ?_
  refine lv_bipush (v := 9) hx hb dX0_away_1 (by decide) ?_
  refine lv_icmp_lt (tgt := 8) hx hb dX0_away_3 (by decide) (fun c_3 => ?_) (fun c_3 => ?_)
  · have d_3 := c_3
    simp only [kt_lt, kt_le, kt_eq, kt_c0, kt_c1, kt_c2, kt_c3, kt_c4, kt_c8, kt_c9, kt_cm1, kt_c81, kt_c40, kt_c7, kt_c5, kt_c6, kt_c512, kt_c10, kt_c10000] at d_3
    refine lv_iload_n hx hb dX0_away_8 rfl (lv_at hl 1 rfl) ?_
    refine lv_istore (lv' := [(4, .int p1), (0, .ref gr), (1, .int p1), (2, .int p2), (3, .int p3)]) hx hb dX0_away_9 hl (by decide) rfl (fun ls hl => ?_)
    refine lv_iconst (v := 0) hx hb dX0_away_11 (by decide) ?_
    refine lv_istore (lv' := [(5, .int 0), (4, .int p1), (0, .ref gr), (1, .int p1), (2, .int p2), (3, .int p3)]) hx hb dX0_away_12 hl (by decide) rfl (fun ls hl => ?_)
    refine kt_loop (σ := Nat × Int32) 14 6 (fun u => [(gr, .inr (0, [.ref gt, .ref gg, .ref gn, .int gs, .int gm])), (gn, .inl (cI, 324, .inl nb))]) (fun u => [(5, .int (nI u.1)), (4, .int u.2), (0, .ref gr), (1, .int p1), (2, .int p2), (3, .int p3)]) (fun n u => (u.1 ≤ 9 ∧ 9 < u.1 + n ∧ (u.1 : Int) ≤ p3.toInt) ∧ u.2.toInt = kt_al p1.toInt w_ L_ p2.toInt (u.1 : Int) ∧ -1 ≤ u.2.toInt ∧ u.2.toInt ≤ 80) (fun u h => by omega) (fun n_14 ih_14 u hI H locs hP hD hS ls hl => ?_) (10) (0, p1) (by show (0 ≤ 9 ∧ 9 < 0 + 10 ∧ (0 : Int) ≤ p3.toInt) ∧ p1.toInt = kt_al p1.toInt w_ L_ p2.toInt (0 : Int) ∧ -1 ≤ p1.toInt ∧ p1.toInt ≤ 80; exact ⟨⟨by decide, by decide, by omega⟩, (kt_al_0 hgx.2.1 hgx.2.2 hp1).symm, by omega⟩) hP hD hS (lv_sub hl [0, 1, 2, 3, 4, 5] rfl)
    obtain ⟨k, f⟩ := u
    have hP : va_P D vwCl [(gr, .inr (0, [.ref gt, .ref gg, .ref gn, .int gs, .int gm])), (gn, .inl (cI, 324, .inl nb))] H := hP
    have hD : va_D A [(gr, .inr (0, [.ref gt, .ref gg, .ref gn, .int gs, .int gm])), (gn, .inl (cI, 324, .inl nb))] := hD
    have hl : lv_has ls 6 [(5, .int (nI k)), (4, .int f), (0, .ref gr), (1, .int p1), (2, .int p2), (3, .int p3)] := hl
    have hI : (k ≤ 9 ∧ 9 < k + (n_14 + 1) ∧ (k : Int) ≤ p3.toInt) ∧ f.toInt = kt_al p1.toInt w_ L_ p2.toInt (k : Int) ∧ -1 ≤ f.toInt ∧ f.toInt ≤ 80 := hI
    obtain ⟨hkb, hf, hfr_⟩ := hI
    have hk0 := kt_nI (n := k) (by omega)
    refine lv_iload hx hb dX0_away_14 (lv_at hl 0 rfl) ?_
    refine lv_iload_n hx hb dX0_away_16 rfl (lv_at hl 5 rfl) ?_
    refine lv_icmp_ge (tgt := 35) hx hb dX0_away_17 (by decide) (fun c_17 => ?_) (fun c_17 => ?_)
    · have d_17 := c_17
      simp only [kt_lt, kt_le, kt_eq, kt_c0, kt_c1, kt_c2, kt_c3, kt_c4, kt_c8, kt_c9, kt_cm1, kt_c81, kt_c40, kt_c7, kt_c5, kt_c6, kt_c512, kt_c10, kt_c10000] at d_17
      refine lv_iload hx hb dX0_away_35 (lv_at hl 1 rfl) ?_
      exact kt_ri () hx hb hr hlk hS dX0_away_37 hP hD (by show f.toInt = kt_al p1.toInt w_ L_ p2.toInt p3.toInt; first | (rw [show p3.toInt = (k : Int) by omega]; exact hf) | (rw [(kt_al_c p1.toInt w_ L_ p2.toInt p3.toInt).2 (by omega)]; decide))
    · have d_17 := c_17
      simp only [kt_lt, kt_le, kt_eq, kt_c0, kt_c1, kt_c2, kt_c3, kt_c4, kt_c8, kt_c9, kt_cm1, kt_c81, kt_c40, kt_c7, kt_c5, kt_c6, kt_c512, kt_c10, kt_c10000] at d_17
      refine lv_aload_n hx hb dX0_away_20 rfl (lv_at hl 2 rfl) ?_
      refine lv_iload hx hb dX0_away_21 (lv_at hl 1 rfl) ?_
      refine lv_iload_n hx hb dX0_away_23 rfl (lv_at hl 4 rfl) ?_
      refine kt_pi (wc := [(gr, .inr (0, [.ref gt, .ref gg, .ref gn, .int gs, .int gm])), (gn, .inl (cI, 324, .inl nb))]) [0, 1] hP hD hS hA rfl (by decide) (fun hPc hDc => va_runV (As := [.int f, .int p2]) (rest := []) ⟨hx, hb, hml, hown, hts⟩ (c_X0_besideE l D cI cZ cB H.size gr gt gg gn gs gm nb w_ L_ f p2 hgs hnb hgx hnx) (cwV 2 hts gX0_away_X0_beside rfl rfl rfl (by decide +kernel) ⟨Nat.le_of_ble_eq_true rfl, Nat.le_of_ble_eq_true rfl⟩) (kt_preV hN hK hPc hDc 0 (ci := 0) (q := (RX0, TX0, 5)) rfl rfl) rfl rfl hl.1 rfl (lv_room (Nat.le_of_ble_eq_true rfl)) dX0_away_24 ⟨Nat.le_of_ble_eq_true rfl, Nat.le_of_ble_eq_true rfl⟩) (fun r_24 _ H locs hw_24 hP hS => ?_)
      
      refine lv_istore (lv' := [(4, .int r_24), (5, .int (nI k)), (0, .ref gr), (1, .int p1), (2, .int p2), (3, .int p3)]) hx hb dX0_away_27 hl (by decide) rfl (fun ls hl => ?_)
      refine lv_iinc (v := nI (k + 1)) (lv' := [(5, .int (nI (k + 1))), (4, .int r_24), (0, .ref gr), (1, .int p1), (2, .int p2), (3, .int p3)]) hx hb dX0_away_29 hl (k := 1) rfl (nI_1 _) (by decide) rfl (fun ls hl => ?_)
      refine lv_goto (tgt := 14) hx hb dX0_away_32 (by decide) ?_
      exact ih_14 ((k + 1), r_24) (by show ((k + 1) ≤ 9 ∧ 9 < (k + 1) + n_14 ∧ ((k + 1) : Int) ≤ p3.toInt) ∧ r_24.toInt = kt_al p1.toInt w_ L_ p2.toInt ((k + 1) : Int) ∧ -1 ≤ r_24.toInt ∧ r_24.toInt ≤ 80; exact ⟨by omega, kt_step hgx.2.1 hgx.2.2 hp1 hp2 (by omega) hf hw_24.1 hw_24.2.1, hw_24.2.2⟩) H _ hP hD hS ls (lv_sub hl [0, 1, 2, 3, 4, 5] rfl)
  · have d_3 := c_3
    simp only [kt_lt, kt_le, kt_eq, kt_c0, kt_c1, kt_c2, kt_c3, kt_c4, kt_c8, kt_c9, kt_cm1, kt_c81, kt_c40, kt_c7, kt_c5, kt_c6, kt_c512, kt_c10, kt_c10000] at d_3
    refine lv_iconst (v := (-1)) hx hb dX0_away_6 (by decide) ?_
    exact kt_ri () hx hb hr hlk hS dX0_away_7 hP hD (by show (-1 : Int32).toInt = kt_al p1.toInt w_ L_ p2.toInt p3.toInt; first | (rw [show p3.toInt = (k : Int) by omega]; exact hf) | (rw [(kt_al_c p1.toInt w_ L_ p2.toInt p3.toInt).2 (by omega)]; decide))

set_option maxHeartbeats 4000000 in
set_option maxRecDepth 100000 in
theorem c_X6_roomE (l : Launch) (D : va_G) (cI cZ cB : ClassId) (sz : Nat) (ru : Nat) (la : Nat) (gr : Nat) (rk : Nat) (rs : Nat) (rt : Nat) (rv : Nat) (tt : Int32) (kg : Int32) (vc : Int32) (lg : Int32) (lh : Int32) (lt : Int32) (lr : Int32) (lc : Int32) (gt : Nat) (gg : Nat) (gn : Nat) (gs : Int32) (gm : Int32) (tg : Nat → Int32) (nb : Nat → Int32) (nw : Nat) (sf : Nat) (sh : Nat) (tu : Int32) (ff : Nat → Int32) (fh : Nat → Int32) (w_ : Int) (L_ : Int) (P_ : Nat) (gl : Nat → Int32) (fk : Nat → Int32) (fs : Nat → Int32) (ft : Nat → Int32) (fr : Nat → Int32) (ck : Nat → Int32) (p1 : Int32) (p2 : Int32) (hgs : 0 ≤ gs.toInt ∧ gs.toInt ≤ 81) (hgt : kt_r tg 81 0 2) (hnb : kt_r nb 324 (-1) 80) (hff : kt_r ff 40 (-1) 80) (hfh : kt_r fh 81 (-1) 39) (hlr : 0 ≤ lr.toInt ∧ lr.toInt ≤ 8) (hrx : kt_RX w_ L_ P_ tt kg gs lg lt tg gl nb fk fs ft fr ck) (hfp : kt_r ff P_ (-1) (L_ * w_ - 1)) (hp1 : 0 ≤ p1.toInt ∧ p1.toInt < (P_ : Int)) (hp2 : 0 ≤ p2.toInt ∧ p2.toInt < 4) : kt_Mi l yX6_room wsX6_room { frames := 1, cells := 0, slots := 0, locals := 23 } D (kt_ty cI cZ cB) [.ref ru, .ref nw, .int p1, .int p2] sz [(ru, .inr (6, [.ref la, .ref gr, .ref rk, .ref rs, .ref rt, .int tt, .int kg, .ref rv, .int vc])), (la, .inr (1, [.int lg, .int lh, .int lt, .int lr, .int lc])), (gr, .inr (0, [.ref gt, .ref gg, .ref gn, .int gs, .int gm])), (gt, .inl (cI, 81, .inl tg)), (gn, .inl (cI, 324, .inl nb)), (nw, .inr (8, [.ref sf, .ref sh, .int tu])), (sf, .inl (cI, 40, .inl ff)), (sh, .inl (cI, 81, .inl fh))] (fun (r : Int32) (u : Unit) => (ff p1.toNatClampNeg = -1 → r.toInt = 0) ∧ (¬ ff p1.toNatClampNeg = -1 → kt_RM fh fr (fk p1.toNatClampNeg) lr.toInt (ff p1.toNatClampNeg).toInt w_ L_ p2.toInt r.toInt) ∧ 0 ≤ r.toInt ∧ r.toInt ≤ 9) (fun (u : Unit) => [(ru, .inr (6, [.ref la, .ref gr, .ref rk, .ref rs, .ref rt, .int tt, .int kg, .ref rv, .int vc])), (la, .inr (1, [.int lg, .int lh, .int lt, .int lr, .int lc])), (gr, .inr (0, [.ref gt, .ref gg, .ref gn, .int gs, .int gm])), (gt, .inl (cI, 81, .inl tg)), (gn, .inl (cI, 324, .inl nb)), (nw, .inr (8, [.ref sf, .ref sh, .int tu])), (sf, .inl (cI, 40, .inl ff)), (sh, .inl (cI, 81, .inl fh))]) 0 0 := by
  refine kt_Mi.of (cc := cX6_room) (maxL := 7) (ret := some .int) (by decide) rfl (Nat.le_of_ble_eq_true rfl) ?_
  intro p e s m below meth c A ls H hAt hP hD hS hl
  obtain ⟨hx, hb, hr, hml, hown, hts, hN, hK, hlk, hnm, hA⟩ := hAt
  have hl : lv_has ls 7 [(0, .ref ru), (1, .ref nw), (2, .int p1), (3, .int p2)] := hl
  have hown : s.vm.findClass RX6 = some m.cls := hown
  obtain ⟨hgx, hnx, htf, ⟨htP, hP40⟩, hsd_, hkq, hck, hkr⟩ := hrx
  have hgx1 := hgx.1
  have hw_ := hgx.2.1
  have hL_ := hgx.2.2
  have httP : tt.toInt = (P_ : Int) := by rw [htP, kt_nI (by omega)]
  have hkk := hkq p1.toInt.toNat (by omega)
  rw [← kt_nIof (x := p1) (by omega)] at hkk
  have hX := hfp.get (kt_in (x := p1) (n := P_) (by omega) (by omega))
  have hX2 : -1 ≤ (ff p1.toNatClampNeg).toInt ∧ (ff p1.toNatClampNeg).toInt < L_ * w_ := by omega
  refine lv_iload_n hx hb dX6_room_0 rfl (lv_at hl 2 rfl) ?_
  refine lv_aload_n hx hb dX6_room_1 rfl (lv_at hl 0 rfl) ?_
  refine va_get (D := D) (ci := 6) (C := RX6) (T := TX6) (N := 9) hx hb hts iw_X6_room_X6 hown hK hP 0 rfl rfl 6 (by decide) (hts (.fieldLink RX6 29 "KingTable$Rules" "king" "I") (kt_wp_X6_room__X6_room_r1 kt_wm0)) (fun _ h9 => h9) rfl dX6_room_2 ?_
  refine kt_join (σ := Int32) 30 7 (fun u => [(ru, .inr (6, [.ref la, .ref gr, .ref rk, .ref rs, .ref rt, .int tt, .int kg, .ref rv, .int vc])), (la, .inr (1, [.int lg, .int lh, .int lt, .int lr, .int lc])), (gr, .inr (0, [.ref gt, .ref gg, .ref gn, .int gs, .int gm])), (gt, .inl (cI, 81, .inl tg)), (gn, .inl (cI, 324, .inl nb)), (nw, .inr (8, [.ref sf, .ref sh, .int tu])), (sf, .inl (cI, 40, .inl ff)), (sh, .inl (cI, 81, .inl fh))]) (fun u => [(0, .ref ru), (1, .ref nw), (2, .int p1), (3, .int p2)]) (fun u => [.int u]) (fun u => (u.toInt = 9 ∧ ¬ ((fk p1.toNatClampNeg) = 2 ∧ 0 < lr.toInt)) ∨ (u.toInt = lr.toInt ∧ (fk p1.toNatClampNeg) = 2 ∧ 0 < lr.toInt)) (D := D) (A := A) (H0 := s.heap) (fun u hI H locs hP hD hS ls hl => ?_) (fun j_30 => ?_)
  · obtain ⟨lim, rfl⟩ : ∃ z, z = u := ⟨_, rfl⟩
    have hP : va_P D vwCl [(ru, .inr (6, [.ref la, .ref gr, .ref rk, .ref rs, .ref rt, .int tt, .int kg, .ref rv, .int vc])), (la, .inr (1, [.int lg, .int lh, .int lt, .int lr, .int lc])), (gr, .inr (0, [.ref gt, .ref gg, .ref gn, .int gs, .int gm])), (gt, .inl (cI, 81, .inl tg)), (gn, .inl (cI, 324, .inl nb)), (nw, .inr (8, [.ref sf, .ref sh, .int tu])), (sf, .inl (cI, 40, .inl ff)), (sh, .inl (cI, 81, .inl fh))] H := hP
    have hD : va_D A [(ru, .inr (6, [.ref la, .ref gr, .ref rk, .ref rs, .ref rt, .int tt, .int kg, .ref rv, .int vc])), (la, .inr (1, [.int lg, .int lh, .int lt, .int lr, .int lc])), (gr, .inr (0, [.ref gt, .ref gg, .ref gn, .int gs, .int gm])), (gt, .inl (cI, 81, .inl tg)), (gn, .inl (cI, 324, .inl nb)), (nw, .inr (8, [.ref sf, .ref sh, .int tu])), (sf, .inl (cI, 40, .inl ff)), (sh, .inl (cI, 81, .inl fh))] := hD
    have hl : lv_has ls 7 [(0, .ref ru), (1, .ref nw), (2, .int p1), (3, .int p2)] := hl
    have hI : (lim.toInt = 9 ∧ ¬ ((fk p1.toNatClampNeg) = 2 ∧ 0 < lr.toInt)) ∨ (lim.toInt = lr.toInt ∧ (fk p1.toNatClampNeg) = 2 ∧ 0 < lr.toInt) := hI
    have hlim := hI
    have hlim9 : 1 ≤ lim.toInt ∧ lim.toInt ≤ 9 := by omega
    refine lv_istore (lv' := [(4, .int lim), (0, .ref ru), (1, .ref nw), (2, .int p1), (3, .int p2)]) hx hb dX6_room_30 hl (by decide) rfl (fun ls hl => ?_)
    refine lv_aload_n hx hb dX6_room_32 rfl (lv_at hl 1 rfl) ?_
    refine va_get (D := D) (ci := 6) (C := RX6) (T := TX6) (N := 9) hx hb hts iw_X6_room_X6 hown hK hP 0 rfl rfl 1 (by decide) (hts (.fieldLink RX6 12 "KingTable$Rules" "ground" "LKingTable$Ground;") (kt_wp_X6_room__X6_room_r1 kt_wm2)) (fun _ h9 => h9) rfl dX6_room_33 ?_
    refine lv_aload_n hx hb dX6_room_36 rfl (lv_at hl 2 rfl) ?_
    refine lv_iload_n hx hb dX6_room_37 rfl (lv_at hl 3 rfl) ?_
    refine kt_pi (wc := [(nw, .inr (8, [.ref sf, .ref sh, .int tu])), (sf, .inl (cI, 40, .inl ff))]) [5, 6] hP hD hS hA rfl (by decide) (fun hPc hDc => va_runV (As := [.int p1]) (rest := [.ref gr]) ⟨hx, hb, hml, hown, hts⟩ (c_X8_fieldOfE l D cI cZ cB H.size nw sf sh tu ff p1 hff) (cwV 1 hts gX6_room_X8_fieldOf rfl rfl rfl (by decide +kernel) ⟨Nat.le_of_ble_eq_true rfl, Nat.le_of_ble_eq_true rfl⟩) (kt_preV hN hK hPc hDc 0 (ci := 8) (q := (RX8, TX8, 3)) rfl rfl) rfl rfl hl.1 rfl (lv_room (Nat.le_of_ble_eq_true rfl)) dX6_room_38 ⟨Nat.le_of_ble_eq_true rfl, Nat.le_of_ble_eq_true rfl⟩) (fun r_38 _ H locs hw_38 hP hS => ?_)
    have e38 := hw_38.1 (by omega)
    refine lv_iload_n hx hb dX6_room_41 rfl (lv_at hl 4 rfl) ?_
    refine kt_pi (wc := [(gr, .inr (0, [.ref gt, .ref gg, .ref gn, .int gs, .int gm])), (gn, .inl (cI, 324, .inl nb))]) [2, 4] hP hD hS hA rfl (by decide) (fun hPc hDc => va_runV (As := [.int r_38, .int p2]) (rest := []) ⟨hx, hb, hml, hown, hts⟩ (c_X0_besideE l D cI cZ cB H.size gr gt gg gn gs gm nb w_ L_ r_38 p2 hgs hnb hgx hnx) (cwV 2 hts gX6_room_X0_beside rfl rfl rfl (by decide +kernel) ⟨Nat.le_of_ble_eq_true rfl, Nat.le_of_ble_eq_true rfl⟩) (kt_preV hN hK hPc hDc 0 (ci := 0) (q := (RX0, TX0, 5)) rfl rfl) rfl rfl hl.1 rfl (lv_room (Nat.le_of_ble_eq_true rfl)) dX6_room_42 ⟨Nat.le_of_ble_eq_true rfl, Nat.le_of_ble_eq_true rfl⟩) (fun r_42 _ H locs hw_42 hP hS => ?_)
    rw [e38] at hw_42
    refine lv_istore (lv' := [(5, .int r_42), (4, .int lim), (0, .ref ru), (1, .ref nw), (2, .int p1), (3, .int p2)]) hx hb dX6_room_45 hl (by decide) rfl (fun ls hl => ?_)
    refine lv_iconst (v := 0) hx hb dX6_room_47 (by decide) ?_
    refine lv_istore (lv' := [(6, .int 0), (5, .int r_42), (4, .int lim), (0, .ref ru), (1, .ref nw), (2, .int p1), (3, .int p2)]) hx hb dX6_room_48 hl (by decide) rfl (fun ls hl => ?_)
    refine kt_loop (σ := Nat × Int32) 50 7 (fun u => [(ru, .inr (6, [.ref la, .ref gr, .ref rk, .ref rs, .ref rt, .int tt, .int kg, .ref rv, .int vc])), (la, .inr (1, [.int lg, .int lh, .int lt, .int lr, .int lc])), (gr, .inr (0, [.ref gt, .ref gg, .ref gn, .int gs, .int gm])), (gt, .inl (cI, 81, .inl tg)), (gn, .inl (cI, 324, .inl nb)), (nw, .inr (8, [.ref sf, .ref sh, .int tu])), (sf, .inl (cI, 40, .inl ff)), (sh, .inl (cI, 81, .inl fh))]) (fun u => [(6, .int (nI u.1)), (5, .int u.2), (4, .int lim), (0, .ref ru), (1, .ref nw), (2, .int p1), (3, .int p2)]) (fun n u => (u.1 ≤ 9 ∧ 9 < u.1 + n ∧ (u.1 : Int) ≤ lim.toInt) ∧ (-1 ≤ u.2.toInt ∧ u.2.toInt ≤ 80) ∧ kt_rmi fh fr (fk p1.toNatClampNeg) (ff p1.toNatClampNeg).toInt w_ L_ p2.toInt u.1 u.2.toInt) (fun u h => by omega) (fun n_50 ih_50 u hI H locs hP hD hS ls hl => ?_) (10) (0, r_42) (by show (0 ≤ 9 ∧ 9 < 0 + 10 ∧ (0 : Int) ≤ lim.toInt) ∧ (-1 ≤ r_42.toInt ∧ r_42.toInt ≤ 80) ∧ kt_rmi fh fr (fk p1.toNatClampNeg) (ff p1.toNatClampNeg).toInt w_ L_ p2.toInt 0 r_42.toInt; exact ⟨⟨by decide, by decide, by omega⟩, hw_42.2.2, kt_rmi.start hw_ hL_ hX2 hp2 hw_42.1 hw_42.2.1⟩) hP hD hS (lv_sub hl [0, 1, 2, 3, 4, 5, 6] rfl)
    obtain ⟨k, f⟩ := u
    have hP : va_P D vwCl [(ru, .inr (6, [.ref la, .ref gr, .ref rk, .ref rs, .ref rt, .int tt, .int kg, .ref rv, .int vc])), (la, .inr (1, [.int lg, .int lh, .int lt, .int lr, .int lc])), (gr, .inr (0, [.ref gt, .ref gg, .ref gn, .int gs, .int gm])), (gt, .inl (cI, 81, .inl tg)), (gn, .inl (cI, 324, .inl nb)), (nw, .inr (8, [.ref sf, .ref sh, .int tu])), (sf, .inl (cI, 40, .inl ff)), (sh, .inl (cI, 81, .inl fh))] H := hP
    have hD : va_D A [(ru, .inr (6, [.ref la, .ref gr, .ref rk, .ref rs, .ref rt, .int tt, .int kg, .ref rv, .int vc])), (la, .inr (1, [.int lg, .int lh, .int lt, .int lr, .int lc])), (gr, .inr (0, [.ref gt, .ref gg, .ref gn, .int gs, .int gm])), (gt, .inl (cI, 81, .inl tg)), (gn, .inl (cI, 324, .inl nb)), (nw, .inr (8, [.ref sf, .ref sh, .int tu])), (sf, .inl (cI, 40, .inl ff)), (sh, .inl (cI, 81, .inl fh))] := hD
    have hl : lv_has ls 7 [(6, .int (nI k)), (5, .int f), (4, .int lim), (0, .ref ru), (1, .ref nw), (2, .int p1), (3, .int p2)] := hl
    have hI : (k ≤ 9 ∧ 9 < k + (n_50 + 1) ∧ (k : Int) ≤ lim.toInt) ∧ (-1 ≤ f.toInt ∧ f.toInt ≤ 80) ∧ kt_rmi fh fr (fk p1.toNatClampNeg) (ff p1.toNatClampNeg).toInt w_ L_ p2.toInt k f.toInt := hI
    obtain ⟨hkb, hfr_, hcs⟩ := hI
    have hk0 := kt_nI (n := k) (by omega)
    have hfin := fun h => (hcs.inn hw_ hL_ hX2 h).1
    refine lv_iload hx hb dX6_room_50 (lv_at hl 0 rfl) ?_
    refine lv_iload hx hb dX6_room_52 (lv_at hl 2 rfl) ?_
    refine lv_icmp_ge (tgt := 101) hx hb dX6_room_54 (by decide) (fun c_54 => ?_) (fun c_54 => ?_)
    · have d_54 := c_54
      simp only [kt_lt, kt_le, kt_eq, kt_c0, kt_c1, kt_c2, kt_c3, kt_c4, kt_c8, kt_c9, kt_cm1, kt_c81, kt_c40, kt_c7, kt_c5, kt_c6, kt_c512, kt_c10, kt_c10000] at d_54
      have hR := hcs.stop (re := lr.toInt) (lim := lim.toInt) hw_ hL_ hX2 hlim hkb.2.2 (by first | exact Or.inl (by omega) | exact Or.inr (Or.inl (by omega)) | exact Or.inr (Or.inr (Or.inl ⟨by omega, fun h => c_70 ((hw_66.1 (by omega)).trans h)⟩)) | exact Or.inr (Or.inr (Or.inr ⟨by omega, (hw_66.1 (by omega)).symm.trans c_70, fun h => (hw_77.f c_80) (h.elim (fun h1 => Or.inr ⟨by omega, by omega, (htf f.toInt.toNat (by omega)).1.mpr h1⟩) (fun h2 => Or.inl (hkk.mp h2).symm))⟩)))
      rw [← hk0] at hR
      have hRe : ff p1.toNatClampNeg = -1 ↔ (ff p1.toNatClampNeg).toInt = -1 := kt_eq _ _
      refine lv_iload hx hb dX6_room_101 (lv_at hl 0 rfl) ?_
      exact kt_ri () hx hb hr hlk hS dX6_room_103 hP hD (by show (ff p1.toNatClampNeg = -1 → (nI k).toInt = 0) ∧ (¬ ff p1.toNatClampNeg = -1 → kt_RM fh fr (fk p1.toNatClampNeg) lr.toInt (ff p1.toNatClampNeg).toInt w_ L_ p2.toInt (nI k).toInt) ∧ 0 ≤ (nI k).toInt ∧ (nI k).toInt ≤ 9; exact ⟨fun h => hR.1 (hRe.mp h), fun h => hR.2 (fun h2 => h (hRe.mpr h2)), by omega⟩)
    · have d_54 := c_54
      simp only [kt_lt, kt_le, kt_eq, kt_c0, kt_c1, kt_c2, kt_c3, kt_c4, kt_c8, kt_c9, kt_cm1, kt_c81, kt_c40, kt_c7, kt_c5, kt_c6, kt_c512, kt_c10, kt_c10000] at d_54
      refine lv_iload hx hb dX6_room_57 (lv_at hl 1 rfl) ?_
      refine lv_iconst (v := (-1)) hx hb dX6_room_59 (by decide) ?_
      refine lv_icmp_eq (tgt := 101) hx hb dX6_room_60 (by decide) (fun c_60 => ?_) (fun c_60 => ?_)
      · have d_60 := c_60
        simp only [kt_lt, kt_le, kt_eq, kt_c0, kt_c1, kt_c2, kt_c3, kt_c4, kt_c8, kt_c9, kt_cm1, kt_c81, kt_c40, kt_c7, kt_c5, kt_c6, kt_c512, kt_c10, kt_c10000] at d_60
        have hR := hcs.stop (re := lr.toInt) (lim := lim.toInt) hw_ hL_ hX2 hlim hkb.2.2 (by first | exact Or.inl (by omega) | exact Or.inr (Or.inl (by omega)) | exact Or.inr (Or.inr (Or.inl ⟨by omega, fun h => c_70 ((hw_66.1 (by omega)).trans h)⟩)) | exact Or.inr (Or.inr (Or.inr ⟨by omega, (hw_66.1 (by omega)).symm.trans c_70, fun h => (hw_77.f c_80) (h.elim (fun h1 => Or.inr ⟨by omega, by omega, (htf f.toInt.toNat (by omega)).1.mpr h1⟩) (fun h2 => Or.inl (hkk.mp h2).symm))⟩)))
        rw [← hk0] at hR
        have hRe : ff p1.toNatClampNeg = -1 ↔ (ff p1.toNatClampNeg).toInt = -1 := kt_eq _ _
        refine lv_iload hx hb dX6_room_101 (lv_at hl 0 rfl) ?_
        exact kt_ri () hx hb hr hlk hS dX6_room_103 hP hD (by show (ff p1.toNatClampNeg = -1 → (nI k).toInt = 0) ∧ (¬ ff p1.toNatClampNeg = -1 → kt_RM fh fr (fk p1.toNatClampNeg) lr.toInt (ff p1.toNatClampNeg).toInt w_ L_ p2.toInt (nI k).toInt) ∧ 0 ≤ (nI k).toInt ∧ (nI k).toInt ≤ 9; exact ⟨fun h => hR.1 (hRe.mp h), fun h => hR.2 (fun h2 => h (hRe.mpr h2)), by omega⟩)
      · have d_60 := c_60
        simp only [kt_lt, kt_le, kt_eq, kt_c0, kt_c1, kt_c2, kt_c3, kt_c4, kt_c8, kt_c9, kt_cm1, kt_c81, kt_c40, kt_c7, kt_c5, kt_c6, kt_c512, kt_c10, kt_c10000] at d_60
        refine lv_aload_n hx hb dX6_room_63 rfl (lv_at hl 4 rfl) ?_
        refine lv_iload hx hb dX6_room_64 (lv_at hl 1 rfl) ?_
        have hfi := hfin (by omega)
        refine kt_pi (wc := [(nw, .inr (8, [.ref sf, .ref sh, .int tu])), (sh, .inl (cI, 81, .inl fh))]) [5, 7] hP hD hS hA rfl (by decide) (fun hPc hDc => va_runV (As := [.int f]) (rest := []) ⟨hx, hb, hml, hown, hts⟩ (c_X8_holderOfE l D cI cZ cB H.size nw sf sh tu fh f hfh) (cwV 1 hts gX6_room_X8_holderOf rfl rfl rfl (by decide +kernel) ⟨Nat.le_of_ble_eq_true rfl, Nat.le_of_ble_eq_true rfl⟩) (kt_preV hN hK hPc hDc 0 (ci := 8) (q := (RX8, TX8, 3)) rfl rfl) rfl rfl hl.1 rfl (lv_room (Nat.le_of_ble_eq_true rfl)) dX6_room_66 ⟨Nat.le_of_ble_eq_true rfl, Nat.le_of_ble_eq_true rfl⟩) (fun r_66 _ H locs hw_66 hP hS => ?_)
        
        refine lv_iconst (v := (-1)) hx hb dX6_room_69 (by decide) ?_
        refine lv_icmp_ne (tgt := 101) hx hb dX6_room_70 (by decide) (fun c_70 => ?_) (fun c_70 => ?_)
        · have d_70 := c_70
          simp only [kt_lt, kt_le, kt_eq, kt_c0, kt_c1, kt_c2, kt_c3, kt_c4, kt_c8, kt_c9, kt_cm1, kt_c81, kt_c40, kt_c7, kt_c5, kt_c6, kt_c512, kt_c10, kt_c10000] at d_70
          have hR := hcs.stop (re := lr.toInt) (lim := lim.toInt) hw_ hL_ hX2 hlim hkb.2.2 (by first | exact Or.inl (by omega) | exact Or.inr (Or.inl (by omega)) | exact Or.inr (Or.inr (Or.inl ⟨by omega, fun h => c_70 ((hw_66.1 (by omega)).trans h)⟩)) | exact Or.inr (Or.inr (Or.inr ⟨by omega, (hw_66.1 (by omega)).symm.trans c_70, fun h => (hw_77.f c_80) (h.elim (fun h1 => Or.inr ⟨by omega, by omega, (htf f.toInt.toNat (by omega)).1.mpr h1⟩) (fun h2 => Or.inl (hkk.mp h2).symm))⟩)))
          rw [← hk0] at hR
          have hRe : ff p1.toNatClampNeg = -1 ↔ (ff p1.toNatClampNeg).toInt = -1 := kt_eq _ _
          refine lv_iload hx hb dX6_room_101 (lv_at hl 0 rfl) ?_
          exact kt_ri () hx hb hr hlk hS dX6_room_103 hP hD (by show (ff p1.toNatClampNeg = -1 → (nI k).toInt = 0) ∧ (¬ ff p1.toNatClampNeg = -1 → kt_RM fh fr (fk p1.toNatClampNeg) lr.toInt (ff p1.toNatClampNeg).toInt w_ L_ p2.toInt (nI k).toInt) ∧ 0 ≤ (nI k).toInt ∧ (nI k).toInt ≤ 9; exact ⟨fun h => hR.1 (hRe.mp h), fun h => hR.2 (fun h2 => h (hRe.mpr h2)), by omega⟩)
        · have d_70 := c_70
          simp only [kt_lt, kt_le, kt_eq, kt_c0, kt_c1, kt_c2, kt_c3, kt_c4, kt_c8, kt_c9, kt_cm1, kt_c81, kt_c40, kt_c7, kt_c5, kt_c6, kt_c512, kt_c10, kt_c10000] at d_70
          refine lv_aload_n hx hb dX6_room_73 rfl (lv_at hl 3 rfl) ?_
          refine lv_iload hx hb dX6_room_74 (lv_at hl 1 rfl) ?_
          refine lv_iload_n hx hb dX6_room_76 rfl (lv_at hl 5 rfl) ?_
          refine kt_pi (wc := [(ru, .inr (6, [.ref la, .ref gr, .ref rk, .ref rs, .ref rt, .int tt, .int kg, .ref rv, .int vc])), (gr, .inr (0, [.ref gt, .ref gg, .ref gn, .int gs, .int gm])), (gt, .inl (cI, 81, .inl tg))]) [0, 2, 3] hP hD hS hA rfl (by decide) (fun hPc hDc => va_runV (As := [.int f, .int p1]) (rest := []) ⟨hx, hb, hml, hown, hts⟩ (c_X6_bearsE l D cI cZ cB H.size ru la gr rk rs rt rv tt kg vc gt gg gn gs gm tg f p1 hgs hgt) (cwV 2 hts gX6_room_X6_bears rfl rfl rfl (by decide +kernel) ⟨Nat.le_of_ble_eq_true rfl, Nat.le_of_ble_eq_true rfl⟩) (kt_preV hN hK hPc hDc 0 (ci := 6) (q := (RX6, TX6, 9)) rfl rfl) rfl rfl hl.1 rfl (lv_room (Nat.le_of_ble_eq_true rfl)) dX6_room_77 ⟨Nat.le_of_ble_eq_true rfl, Nat.le_of_ble_eq_true rfl⟩) (fun r_77 _ H locs hw_77 hP hS => ?_)
          
          refine lv_if_eq (tgt := 101) hx hb dX6_room_80 (by decide) (fun c_80 => ?_) (fun c_80 => ?_)
          · have d_80 := c_80
            simp only [kt_lt, kt_le, kt_eq, kt_c0, kt_c1, kt_c2, kt_c3, kt_c4, kt_c8, kt_c9, kt_cm1, kt_c81, kt_c40, kt_c7, kt_c5, kt_c6, kt_c512, kt_c10, kt_c10000] at d_80
            have hR := hcs.stop (re := lr.toInt) (lim := lim.toInt) hw_ hL_ hX2 hlim hkb.2.2 (by first | exact Or.inl (by omega) | exact Or.inr (Or.inl (by omega)) | exact Or.inr (Or.inr (Or.inl ⟨by omega, fun h => c_70 ((hw_66.1 (by omega)).trans h)⟩)) | exact Or.inr (Or.inr (Or.inr ⟨by omega, (hw_66.1 (by omega)).symm.trans c_70, fun h => (hw_77.f c_80) (h.elim (fun h1 => Or.inr ⟨by omega, by omega, (htf f.toInt.toNat (by omega)).1.mpr h1⟩) (fun h2 => Or.inl (hkk.mp h2).symm))⟩)))
            rw [← hk0] at hR
            have hRe : ff p1.toNatClampNeg = -1 ↔ (ff p1.toNatClampNeg).toInt = -1 := kt_eq _ _
            refine lv_iload hx hb dX6_room_101 (lv_at hl 0 rfl) ?_
            exact kt_ri () hx hb hr hlk hS dX6_room_103 hP hD (by show (ff p1.toNatClampNeg = -1 → (nI k).toInt = 0) ∧ (¬ ff p1.toNatClampNeg = -1 → kt_RM fh fr (fk p1.toNatClampNeg) lr.toInt (ff p1.toNatClampNeg).toInt w_ L_ p2.toInt (nI k).toInt) ∧ 0 ≤ (nI k).toInt ∧ (nI k).toInt ≤ 9; exact ⟨fun h => hR.1 (hRe.mp h), fun h => hR.2 (fun h2 => h (hRe.mpr h2)), by omega⟩)
          · have d_80 := c_80
            simp only [kt_lt, kt_le, kt_eq, kt_c0, kt_c1, kt_c2, kt_c3, kt_c4, kt_c8, kt_c9, kt_cm1, kt_c81, kt_c40, kt_c7, kt_c5, kt_c6, kt_c512, kt_c10, kt_c10000] at d_80
            have hh : fh f.toInt.toNat = -1 := (hw_66.1 (by omega)).symm.trans c_70
            have hbb : fr f.toInt.toNat = 0 ∨ (fk p1.toNatClampNeg) = 2 := (hw_77.t c_80).elim (fun h1 => Or.inr (hkk.mpr h1.symm)) (fun h2 => Or.inl ((htf f.toInt.toNat (by omega)).1.mp h2.2.2))
            refine lv_iinc (v := nI (k + 1)) (lv' := [(6, .int (nI (k + 1))), (5, .int f), (4, .int lim), (0, .ref ru), (1, .ref nw), (2, .int p1), (3, .int p2)]) hx hb dX6_room_83 hl (k := 0) rfl (nI_1 _) (by decide) rfl (fun ls hl => ?_)
            refine lv_aload_n hx hb dX6_room_86 rfl (lv_at hl 3 rfl) ?_
            refine va_get (D := D) (ci := 6) (C := RX6) (T := TX6) (N := 9) hx hb hts iw_X6_room_X6 hown hK hP 0 rfl rfl 1 (by decide) (hts (.fieldLink RX6 12 "KingTable$Rules" "ground" "LKingTable$Ground;") (kt_wp_X6_room__X6_room_r1 kt_wm2)) (fun _ h9 => h9) rfl dX6_room_87 ?_
            refine lv_iload hx hb dX6_room_90 (lv_at hl 1 rfl) ?_
            refine lv_iload_n hx hb dX6_room_92 rfl (lv_at hl 6 rfl) ?_
            refine kt_pi (wc := [(gr, .inr (0, [.ref gt, .ref gg, .ref gn, .int gs, .int gm])), (gn, .inl (cI, 324, .inl nb))]) [2, 4] hP hD hS hA rfl (by decide) (fun hPc hDc => va_runV (As := [.int f, .int p2]) (rest := []) ⟨hx, hb, hml, hown, hts⟩ (c_X0_besideE l D cI cZ cB H.size gr gt gg gn gs gm nb w_ L_ f p2 hgs hnb hgx hnx) (cwV 2 hts gX6_room_X0_beside rfl rfl rfl (by decide +kernel) ⟨Nat.le_of_ble_eq_true rfl, Nat.le_of_ble_eq_true rfl⟩) (kt_preV hN hK hPc hDc 0 (ci := 0) (q := (RX0, TX0, 5)) rfl rfl) rfl rfl hl.1 rfl (lv_room (Nat.le_of_ble_eq_true rfl)) dX6_room_93 ⟨Nat.le_of_ble_eq_true rfl, Nat.le_of_ble_eq_true rfl⟩) (fun r_93 _ H locs hw_93 hP hS => ?_)
            
            refine lv_istore (lv' := [(5, .int r_93), (6, .int (nI (k + 1))), (4, .int lim), (0, .ref ru), (1, .ref nw), (2, .int p1), (3, .int p2)]) hx hb dX6_room_96 hl (by decide) rfl (fun ls hl => ?_)
            refine lv_goto (tgt := 50) hx hb dX6_room_98 (by decide) ?_
            exact ih_50 ((k + 1), r_93) (by show ((k + 1) ≤ 9 ∧ 9 < (k + 1) + n_50 ∧ ((k + 1) : Int) ≤ lim.toInt) ∧ (-1 ≤ r_93.toInt ∧ r_93.toInt ≤ 80) ∧ kt_rmi fh fr (fk p1.toNatClampNeg) (ff p1.toNatClampNeg).toInt w_ L_ p2.toInt (k + 1) r_93.toInt; exact ⟨by omega, hw_93.2.2, hcs.go hw_ hL_ hX2 hp2 (by omega) hh hbb hw_93.1 hw_93.2.1⟩) H _ hP hD hS ls (lv_sub hl [1, 0, 2, 3, 4, 5, 6] rfl)
  refine lv_icmp_ne (tgt := 28) hx hb dX6_room_5 (by decide) (fun c_5 => ?_) (fun c_5 => ?_)
  · have d_5 := c_5
    simp only [kt_lt, kt_le, kt_eq, kt_c0, kt_c1, kt_c2, kt_c3, kt_c4, kt_c8, kt_c9, kt_cm1, kt_c81, kt_c40, kt_c7, kt_c5, kt_c6, kt_c512, kt_c10, kt_c10000] at d_5
    refine lv_bipush (v := 9) hx hb dX6_room_28 (by decide) ?_
    exact j_30 (9 : Int32) (by show ((9 : Int32).toInt = 9 ∧ ¬ ((fk p1.toNatClampNeg) = 2 ∧ 0 < lr.toInt)) ∨ ((9 : Int32).toInt = lr.toInt ∧ (fk p1.toNatClampNeg) = 2 ∧ 0 < lr.toInt); first | exact Or.inl ⟨by decide, fun h => c_5 (hkk.mp h.1).symm⟩ | exact Or.inl ⟨by decide, fun h => by omega⟩ | exact Or.inr ⟨rfl, hkk.mpr c_5.symm, by omega⟩) H _ hP hD hS ls (lv_sub hl [0, 1, 2, 3] rfl)
  · have d_5 := c_5
    simp only [kt_lt, kt_le, kt_eq, kt_c0, kt_c1, kt_c2, kt_c3, kt_c4, kt_c8, kt_c9, kt_cm1, kt_c81, kt_c40, kt_c7, kt_c5, kt_c6, kt_c512, kt_c10, kt_c10000] at d_5
    refine lv_aload_n hx hb dX6_room_8 rfl (lv_at hl 0 rfl) ?_
    refine va_get (D := D) (ci := 6) (C := RX6) (T := TX6) (N := 9) hx hb hts iw_X6_room_X6 hown hK hP 0 rfl rfl 0 (by decide) (hts (.fieldLink RX6 36 "KingTable$Rules" "laws" "LKingTable$Laws;") (kt_wp_X6_room__X6_room_r1 kt_wm1)) (fun _ h9 => h9) rfl dX6_room_9 ?_
    refine va_getN (D := D) (ci := 1) (C := RX1) (T := TX1) (N := 5) hx hb hts iw_X6_room_X1 hown hK hP 1 rfl rfl 3 (by decide) (va_Nw.use (w := .fieldLinkNest RX6 58 "KingTable$Laws" "reach" "I" "KingTable") rfl (hN _ (by decide +kernel))) (fun _ h9 => h9) rfl dX6_room_12 ?_
    refine lv_if_le (tgt := 28) hx hb dX6_room_15 (by decide) (fun c_15 => ?_) (fun c_15 => ?_)
    · have d_15 := c_15
      simp only [kt_lt, kt_le, kt_eq, kt_c0, kt_c1, kt_c2, kt_c3, kt_c4, kt_c8, kt_c9, kt_cm1, kt_c81, kt_c40, kt_c7, kt_c5, kt_c6, kt_c512, kt_c10, kt_c10000] at d_15
      refine lv_bipush (v := 9) hx hb dX6_room_28 (by decide) ?_
      exact j_30 (9 : Int32) (by show ((9 : Int32).toInt = 9 ∧ ¬ ((fk p1.toNatClampNeg) = 2 ∧ 0 < lr.toInt)) ∨ ((9 : Int32).toInt = lr.toInt ∧ (fk p1.toNatClampNeg) = 2 ∧ 0 < lr.toInt); first | exact Or.inl ⟨by decide, fun h => c_5 (hkk.mp h.1).symm⟩ | exact Or.inl ⟨by decide, fun h => by omega⟩ | exact Or.inr ⟨rfl, hkk.mpr c_5.symm, by omega⟩) H _ hP hD hS ls (lv_sub hl [0, 1, 2, 3] rfl)
    · have d_15 := c_15
      simp only [kt_lt, kt_le, kt_eq, kt_c0, kt_c1, kt_c2, kt_c3, kt_c4, kt_c8, kt_c9, kt_cm1, kt_c81, kt_c40, kt_c7, kt_c5, kt_c6, kt_c512, kt_c10, kt_c10000] at d_15
      refine lv_aload_n hx hb dX6_room_18 rfl (lv_at hl 0 rfl) ?_
      refine va_get (D := D) (ci := 6) (C := RX6) (T := TX6) (N := 9) hx hb hts iw_X6_room_X6 hown hK hP 0 rfl rfl 0 (by decide) (hts (.fieldLink RX6 36 "KingTable$Rules" "laws" "LKingTable$Laws;") (kt_wp_X6_room__X6_room_r1 kt_wm1)) (fun _ h9 => h9) rfl dX6_room_19 ?_
      refine va_getN (D := D) (ci := 1) (C := RX1) (T := TX1) (N := 5) hx hb hts iw_X6_room_X1 hown hK hP 1 rfl rfl 3 (by decide) (va_Nw.use (w := .fieldLinkNest RX6 58 "KingTable$Laws" "reach" "I" "KingTable") rfl (hN _ (by decide +kernel))) (fun _ h9 => h9) rfl dX6_room_22 ?_
      refine lv_goto (tgt := 30) hx hb dX6_room_25 (by decide) ?_
      exact j_30 lr (by show (lr.toInt = 9 ∧ ¬ ((fk p1.toNatClampNeg) = 2 ∧ 0 < lr.toInt)) ∨ (lr.toInt = lr.toInt ∧ (fk p1.toNatClampNeg) = 2 ∧ 0 < lr.toInt); first | exact Or.inl ⟨by decide, fun h => c_5 (hkk.mp h.1).symm⟩ | exact Or.inl ⟨by decide, fun h => by omega⟩ | exact Or.inr ⟨rfl, hkk.mpr c_5.symm, by omega⟩) H _ hP hD hS ls (lv_sub hl [0, 1, 2, 3] rfl)

set_option maxHeartbeats 4000000 in
set_option maxRecDepth 100000 in
theorem c_X6_movesOfE (l : Launch) (D : va_G) (cI cZ cB : ClassId) (sz : Nat) (ru : Nat) (la : Nat) (gr : Nat) (rk : Nat) (rs : Nat) (rt : Nat) (rv : Nat) (tt : Int32) (kg : Int32) (vc : Int32) (lg : Int32) (lh : Int32) (lt : Int32) (lr : Int32) (lc : Int32) (gt : Nat) (gg : Nat) (gn : Nat) (gs : Int32) (gm : Int32) (tg : Nat → Int32) (nb : Nat → Int32) (nw : Nat) (sf : Nat) (sh : Nat) (tu : Int32) (ff : Nat → Int32) (fh : Nat → Int32) (w_ : Int) (L_ : Int) (P_ : Nat) (gl : Nat → Int32) (fk : Nat → Int32) (fs : Nat → Int32) (ft : Nat → Int32) (fr : Nat → Int32) (ck : Nat → Int32) (p1 : Int32) (hgs : 0 ≤ gs.toInt ∧ gs.toInt ≤ 81) (hgt : kt_r tg 81 0 2) (hnb : kt_r nb 324 (-1) 80) (hff : kt_r ff 40 (-1) 80) (hfh : kt_r fh 81 (-1) 39) (hlr : 0 ≤ lr.toInt ∧ lr.toInt ≤ 8) (hrx : kt_RX w_ L_ P_ tt kg gs lg lt tg gl nb fk fs ft fr ck) (hfp : kt_r ff P_ (-1) (L_ * w_ - 1)) (hp1 : 0 ≤ p1.toInt ∧ p1.toInt < (P_ : Int)) : kt_Mi l yX6_movesOf wsX6_movesOf { frames := 2, cells := 0, slots := 0, locals := 49 } D (kt_ty cI cZ cB) [.ref ru, .ref nw, .int p1] sz [(ru, .inr (6, [.ref la, .ref gr, .ref rk, .ref rs, .ref rt, .int tt, .int kg, .ref rv, .int vc])), (la, .inr (1, [.int lg, .int lh, .int lt, .int lr, .int lc])), (gr, .inr (0, [.ref gt, .ref gg, .ref gn, .int gs, .int gm])), (gt, .inl (cI, 81, .inl tg)), (gn, .inl (cI, 324, .inl nb)), (nw, .inr (8, [.ref sf, .ref sh, .int tu])), (sf, .inl (cI, 40, .inl ff)), (sh, .inl (cI, 81, .inl fh))] (fun (r : Int32) (u : Unit) => (ff p1.toNatClampNeg = -1 → r.toInt = 0) ∧ (¬ ff p1.toNatClampNeg = -1 → r.toInt = (kt_ms fh fr (fk p1.toNatClampNeg) lr.toInt (ff p1.toNatClampNeg).toInt w_ L_ 4 : Int))) (fun (u : Unit) => [(ru, .inr (6, [.ref la, .ref gr, .ref rk, .ref rs, .ref rt, .int tt, .int kg, .ref rv, .int vc])), (la, .inr (1, [.int lg, .int lh, .int lt, .int lr, .int lc])), (gr, .inr (0, [.ref gt, .ref gg, .ref gn, .int gs, .int gm])), (gt, .inl (cI, 81, .inl tg)), (gn, .inl (cI, 324, .inl nb)), (nw, .inr (8, [.ref sf, .ref sh, .int tu])), (sf, .inl (cI, 40, .inl ff)), (sh, .inl (cI, 81, .inl fh))]) 0 0 := by
  refine kt_Mi.of (cc := cX6_movesOf) (maxL := 5) (ret := some .int) (by decide) rfl (Nat.le_of_ble_eq_true rfl) ?_
  intro p e s m below meth c A ls H hAt hP hD hS hl
  obtain ⟨hx, hb, hr, hml, hown, hts, hN, hK, hlk, hnm, hA⟩ := hAt
  have hl : lv_has ls 5 [(0, .ref ru), (1, .ref nw), (2, .int p1)] := hl
  have hown : s.vm.findClass RX6 = some m.cls := hown
  have hrx0 := hrx
  refine lv_iconst (v := 0) hx hb dX6_movesOf_0 (by decide) ?_
  refine lv_istore_n (lv' := [(3, .int 0), (0, .ref ru), (1, .ref nw), (2, .int p1)]) hx hb dX6_movesOf_1 rfl hl (by decide) rfl (fun ls hl => ?_)
  refine lv_iconst (v := 0) hx hb dX6_movesOf_2 (by decide) ?_
  refine lv_istore (lv' := [(4, .int 0), (3, .int 0), (0, .ref ru), (1, .ref nw), (2, .int p1)]) hx hb dX6_movesOf_3 hl (by decide) rfl (fun ls hl => ?_)
  refine kt_loop (σ := Nat × Int32) 5 5 (fun u => [(ru, .inr (6, [.ref la, .ref gr, .ref rk, .ref rs, .ref rt, .int tt, .int kg, .ref rv, .int vc])), (la, .inr (1, [.int lg, .int lh, .int lt, .int lr, .int lc])), (gr, .inr (0, [.ref gt, .ref gg, .ref gn, .int gs, .int gm])), (gt, .inl (cI, 81, .inl tg)), (gn, .inl (cI, 324, .inl nb)), (nw, .inr (8, [.ref sf, .ref sh, .int tu])), (sf, .inl (cI, 40, .inl ff)), (sh, .inl (cI, 81, .inl fh))]) (fun u => [(4, .int (nI u.1)), (3, .int u.2), (0, .ref ru), (1, .ref nw), (2, .int p1)]) (fun n u => (u.1 ≤ 4 ∧ 4 < u.1 + n) ∧ (0 ≤ u.2.toInt ∧ u.2.toInt ≤ 9 * (u.1 : Int)) ∧ (ff p1.toNatClampNeg = -1 → u.2.toInt = 0) ∧ (¬ ff p1.toNatClampNeg = -1 → u.2.toInt = (kt_ms fh fr (fk p1.toNatClampNeg) lr.toInt (ff p1.toNatClampNeg).toInt w_ L_ u.1 : Int))) (fun u h => by omega) (fun n_5 ih_5 u hI H locs hP hD hS ls hl => ?_) (5) (0, (0 : Int32)) (by show (0 ≤ 4 ∧ 4 < 0 + 5) ∧ (0 ≤ (0 : Int32).toInt ∧ (0 : Int32).toInt ≤ 9 * (0 : Int)) ∧ (ff p1.toNatClampNeg = -1 → (0 : Int32).toInt = 0) ∧ (¬ ff p1.toNatClampNeg = -1 → (0 : Int32).toInt = (kt_ms fh fr (fk p1.toNatClampNeg) lr.toInt (ff p1.toNatClampNeg).toInt w_ L_ 0 : Int)); exact ⟨by decide, by decide, fun _ => by decide, fun _ => rfl⟩) hP hD hS (lv_sub hl [0, 1, 2, 3, 4] rfl)
  obtain ⟨k, v⟩ := u
  have hP : va_P D vwCl [(ru, .inr (6, [.ref la, .ref gr, .ref rk, .ref rs, .ref rt, .int tt, .int kg, .ref rv, .int vc])), (la, .inr (1, [.int lg, .int lh, .int lt, .int lr, .int lc])), (gr, .inr (0, [.ref gt, .ref gg, .ref gn, .int gs, .int gm])), (gt, .inl (cI, 81, .inl tg)), (gn, .inl (cI, 324, .inl nb)), (nw, .inr (8, [.ref sf, .ref sh, .int tu])), (sf, .inl (cI, 40, .inl ff)), (sh, .inl (cI, 81, .inl fh))] H := hP
  have hD : va_D A [(ru, .inr (6, [.ref la, .ref gr, .ref rk, .ref rs, .ref rt, .int tt, .int kg, .ref rv, .int vc])), (la, .inr (1, [.int lg, .int lh, .int lt, .int lr, .int lc])), (gr, .inr (0, [.ref gt, .ref gg, .ref gn, .int gs, .int gm])), (gt, .inl (cI, 81, .inl tg)), (gn, .inl (cI, 324, .inl nb)), (nw, .inr (8, [.ref sf, .ref sh, .int tu])), (sf, .inl (cI, 40, .inl ff)), (sh, .inl (cI, 81, .inl fh))] := hD
  have hl : lv_has ls 5 [(4, .int (nI k)), (3, .int v), (0, .ref ru), (1, .ref nw), (2, .int p1)] := hl
  have hI : (k ≤ 4 ∧ 4 < k + (n_5 + 1)) ∧ (0 ≤ v.toInt ∧ v.toInt ≤ 9 * (k : Int)) ∧ (ff p1.toNatClampNeg = -1 → v.toInt = 0) ∧ (¬ ff p1.toNatClampNeg = -1 → v.toInt = (kt_ms fh fr (fk p1.toNatClampNeg) lr.toInt (ff p1.toNatClampNeg).toInt w_ L_ k : Int)) := hI
  obtain ⟨hkb, hvr, hv1, hv2⟩ := hI
  have hk0 := kt_nI (n := k) (by omega)
  refine lv_iload hx hb dX6_movesOf_5 (lv_at hl 0 rfl) ?_
  refine lv_iconst (v := 4) hx hb dX6_movesOf_7 (by decide) ?_
  refine lv_icmp_ge (tgt := 28) hx hb dX6_movesOf_8 (by decide) (fun c_8 => ?_) (fun c_8 => ?_)
  · have d_8 := c_8
    simp only [kt_lt, kt_le, kt_eq, kt_c0, kt_c1, kt_c2, kt_c3, kt_c4, kt_c8, kt_c9, kt_cm1, kt_c81, kt_c40, kt_c7, kt_c5, kt_c6, kt_c512, kt_c10, kt_c10000] at d_8
    refine lv_iload_n hx hb dX6_movesOf_28 rfl (lv_at hl 1 rfl) ?_
    exact kt_ri () hx hb hr hlk hS dX6_movesOf_29 hP hD (by show (ff p1.toNatClampNeg = -1 → v.toInt = 0) ∧ (¬ ff p1.toNatClampNeg = -1 → v.toInt = (kt_ms fh fr (fk p1.toNatClampNeg) lr.toInt (ff p1.toNatClampNeg).toInt w_ L_ 4 : Int)); rw [show (4 : Nat) = k by omega]; exact ⟨hv1, hv2⟩)
  · have d_8 := c_8
    simp only [kt_lt, kt_le, kt_eq, kt_c0, kt_c1, kt_c2, kt_c3, kt_c4, kt_c8, kt_c9, kt_cm1, kt_c81, kt_c40, kt_c7, kt_c5, kt_c6, kt_c512, kt_c10, kt_c10000] at d_8
    refine lv_iload_n hx hb dX6_movesOf_11 rfl (lv_at hl 1 rfl) ?_
    refine lv_aload_n hx hb dX6_movesOf_12 rfl (lv_at hl 2 rfl) ?_
    refine lv_aload_n hx hb dX6_movesOf_13 rfl (lv_at hl 3 rfl) ?_
    refine lv_iload_n hx hb dX6_movesOf_14 rfl (lv_at hl 4 rfl) ?_
    refine lv_iload hx hb dX6_movesOf_15 (lv_at hl 0 rfl) ?_
    refine kt_pi (wc := [(ru, .inr (6, [.ref la, .ref gr, .ref rk, .ref rs, .ref rt, .int tt, .int kg, .ref rv, .int vc])), (la, .inr (1, [.int lg, .int lh, .int lt, .int lr, .int lc])), (gr, .inr (0, [.ref gt, .ref gg, .ref gn, .int gs, .int gm])), (gt, .inl (cI, 81, .inl tg)), (gn, .inl (cI, 324, .inl nb)), (nw, .inr (8, [.ref sf, .ref sh, .int tu])), (sf, .inl (cI, 40, .inl ff)), (sh, .inl (cI, 81, .inl fh))]) [0, 1, 2, 3, 4, 5, 6, 7] hP hD hS hA rfl (by decide) (fun hPc hDc => va_runV (As := [.ref nw, .int p1, .int (nI k)]) (rest := [.int v]) ⟨hx, hb, hml, hown, hts⟩ (c_X6_roomE l D cI cZ cB H.size ru la gr rk rs rt rv tt kg vc lg lh lt lr lc gt gg gn gs gm tg nb nw sf sh tu ff fh w_ L_ P_ gl fk fs ft fr ck p1 (nI k) hgs hgt hnb hff hfh hlr hrx0 hfp hp1 (by omega)) (cwV 3 hts gX6_movesOf_X6_room rfl rfl rfl (by decide +kernel) ⟨Nat.le_of_ble_eq_true rfl, Nat.le_of_ble_eq_true rfl⟩) (kt_preV hN hK hPc hDc 0 (ci := 6) (q := (RX6, TX6, 9)) rfl rfl) rfl rfl hl.1 rfl (lv_room (Nat.le_of_ble_eq_true rfl)) dX6_movesOf_17 ⟨Nat.le_of_ble_eq_true rfl, Nat.le_of_ble_eq_true rfl⟩) (fun r_17 _ H locs hw_17 hP hS => ?_)
    rw [hk0] at hw_17
    refine lv_iadd hx hb dX6_movesOf_20 ?_
    refine lv_topi (fun t_20 et_20 => ?_)
    first | have hk_20 := kt_addx et_20 (by first | omega | (simp only [kt_c0, kt_c1, kt_c2, kt_c3, kt_c4, kt_c8, kt_c9, kt_cm1, kt_c81, kt_c40, kt_c7, kt_c5, kt_c6, kt_c512, kt_c10, kt_c10000]; omega)) (by first | omega | (simp only [kt_c0, kt_c1, kt_c2, kt_c3, kt_c4, kt_c8, kt_c9, kt_cm1, kt_c81, kt_c40, kt_c7, kt_c5, kt_c6, kt_c512, kt_c10, kt_c10000]; omega)) | obtain ⟨k_20, hk_20, hm_20, hM_20⟩ := kt_addk et_20
    refine lv_istore_n (lv' := [(3, .int t_20), (4, .int (nI k)), (0, .ref ru), (1, .ref nw), (2, .int p1)]) hx hb dX6_movesOf_21 rfl hl (by decide) rfl (fun ls hl => ?_)
    refine lv_iinc (v := nI (k + 1)) (lv' := [(4, .int (nI (k + 1))), (3, .int t_20), (0, .ref ru), (1, .ref nw), (2, .int p1)]) hx hb dX6_movesOf_22 hl (k := 1) rfl (nI_1 _) (by decide) rfl (fun ls hl => ?_)
    refine lv_goto (tgt := 5) hx hb dX6_movesOf_25 (by decide) ?_
    exact ih_5 ((k + 1), t_20) (by show ((k + 1) ≤ 4 ∧ 4 < (k + 1) + n_5) ∧ (0 ≤ t_20.toInt ∧ t_20.toInt ≤ 9 * ((k + 1) : Int)) ∧ (ff p1.toNatClampNeg = -1 → t_20.toInt = 0) ∧ (¬ ff p1.toNatClampNeg = -1 → t_20.toInt = (kt_ms fh fr (fk p1.toNatClampNeg) lr.toInt (ff p1.toNatClampNeg).toInt w_ L_ (k + 1) : Int)); exact ⟨by omega, by omega, fun h => by have h5 := hw_17.1 h; have h6 := hv1 h; omega, fun h => by have h5 := (hw_17.2.1 h).cb; have h6 := hv2 h; show t_20.toInt = ((kt_ms fh fr (fk p1.toNatClampNeg) lr.toInt (ff p1.toNatClampNeg).toInt w_ L_ k + kt_cb fh fr (fk p1.toNatClampNeg) lr.toInt (ff p1.toNatClampNeg).toInt w_ L_ (k : Int) 8 : Nat) : Int); omega⟩) H _ hP hD hS ls (lv_sub hl [0, 1, 2, 3, 4] rfl)

set_option maxHeartbeats 4000000 in
set_option maxRecDepth 100000 in
theorem c_X6_canGoE (l : Launch) (D : va_G) (cI cZ cB : ClassId) (sz : Nat) (ru : Nat) (la : Nat) (gr : Nat) (rk : Nat) (rs : Nat) (rt : Nat) (rv : Nat) (tt : Int32) (kg : Int32) (vc : Int32) (lg : Int32) (lh : Int32) (lt : Int32) (lr : Int32) (lc : Int32) (gt : Nat) (gg : Nat) (gn : Nat) (gs : Int32) (gm : Int32) (tg : Nat → Int32) (nb : Nat → Int32) (nw : Nat) (sf : Nat) (sh : Nat) (tu : Int32) (ff : Nat → Int32) (fh : Nat → Int32) (w_ : Int) (L_ : Int) (P_ : Nat) (gl : Nat → Int32) (fk : Nat → Int32) (fs : Nat → Int32) (ft : Nat → Int32) (fr : Nat → Int32) (ck : Nat → Int32) (hgs : 0 ≤ gs.toInt ∧ gs.toInt ≤ 81) (hgt : kt_r tg 81 0 2) (hnb : kt_r nb 324 (-1) 80) (hff : kt_r ff 40 (-1) 80) (hfh : kt_r fh 81 (-1) 39) (hlr : 0 ≤ lr.toInt ∧ lr.toInt ≤ 8) (htt : 0 ≤ tt.toInt ∧ tt.toInt ≤ 40) (hrs : kt_r fs 40 0 1) (hrx : kt_RX w_ L_ P_ tt kg gs lg lt tg gl nb fk fs ft fr ck) (hfp : kt_r ff P_ (-1) (L_ * w_ - 1)) : kt_Mi l yX6_canGo wsX6_canGo { frames := 2, cells := 0, slots := 0, locals := 49 } D (kt_ty cI cZ cB) [.ref ru, .ref nw] sz [(ru, .inr (6, [.ref la, .ref gr, .ref rk, .ref rs, .ref rt, .int tt, .int kg, .ref rv, .int vc])), (la, .inr (1, [.int lg, .int lh, .int lt, .int lr, .int lc])), (gr, .inr (0, [.ref gt, .ref gg, .ref gn, .int gs, .int gm])), (gt, .inl (cI, 81, .inl tg)), (gn, .inl (cI, 324, .inl nb)), (nw, .inr (8, [.ref sf, .ref sh, .int tu])), (sf, .inl (cI, 40, .inl ff)), (sh, .inl (cI, 81, .inl fh)), (rs, .inl (cI, 40, .inl fs))] (fun (r : Int32) (u : Unit) => kt_B r (kt_can P_ fh fr fk ff lr.toInt w_ L_ tu.toInt)) (fun (u : Unit) => [(ru, .inr (6, [.ref la, .ref gr, .ref rk, .ref rs, .ref rt, .int tt, .int kg, .ref rv, .int vc])), (la, .inr (1, [.int lg, .int lh, .int lt, .int lr, .int lc])), (gr, .inr (0, [.ref gt, .ref gg, .ref gn, .int gs, .int gm])), (gt, .inl (cI, 81, .inl tg)), (gn, .inl (cI, 324, .inl nb)), (nw, .inr (8, [.ref sf, .ref sh, .int tu])), (sf, .inl (cI, 40, .inl ff)), (sh, .inl (cI, 81, .inl fh)), (rs, .inl (cI, 40, .inl fs))]) 0 0 := by
  refine kt_Mi.of (cc := cX6_canGo) (maxL := 4) (ret := some .boolean) (by decide) rfl (Nat.le_of_ble_eq_true rfl) ?_
  intro p e s m below meth c A ls H hAt hP hD hS hl
  obtain ⟨hx, hb, hr, hml, hown, hts, hN, hK, hlk, hnm, hA⟩ := hAt
  have hl : lv_has ls 4 [(0, .ref ru), (1, .ref nw)] := hl
  have hown : s.vm.findClass RX6 = some m.cls := hown
  have hrx0 := hrx
  obtain ⟨hgx, hnx, htf, ⟨htP, hP40⟩, hsd_, hkq, hck, hkr⟩ := hrx
  have hgx1 := hgx.1
  have hw_ := hgx.2.1
  have hL_ := hgx.2.2
  have httP : tt.toInt = (P_ : Int) := by rw [htP, kt_nI (by omega)]
  refine lv_iconst (v := 0) hx hb dX6_canGo_0 (by decide) ?_
  refine lv_istore_n (lv' := [(2, .int 0), (0, .ref ru), (1, .ref nw)]) hx hb dX6_canGo_1 rfl hl (by decide) rfl (fun ls hl => ?_)
  refine kt_loop (σ := Nat) 2 4 (fun u => [(ru, .inr (6, [.ref la, .ref gr, .ref rk, .ref rs, .ref rt, .int tt, .int kg, .ref rv, .int vc])), (la, .inr (1, [.int lg, .int lh, .int lt, .int lr, .int lc])), (gr, .inr (0, [.ref gt, .ref gg, .ref gn, .int gs, .int gm])), (gt, .inl (cI, 81, .inl tg)), (gn, .inl (cI, 324, .inl nb)), (nw, .inr (8, [.ref sf, .ref sh, .int tu])), (sf, .inl (cI, 40, .inl ff)), (sh, .inl (cI, 81, .inl fh)), (rs, .inl (cI, 40, .inl fs))]) (fun u => [(2, .int (nI u)), (0, .ref ru), (1, .ref nw)]) (fun n u => (u ≤ 40 ∧ 40 < u + n ∧ u ≤ P_) ∧ ∀ p : Nat, p < u → ∀ a : Nat, a < 4 → ¬ (kt_side (fk p) = tu.toInt ∧ ¬ ff p = -1 ∧ kt_bar fh fr (fk p) lr.toInt (ff p).toInt w_ L_ a 1 = 0)) (fun u h => by omega) (fun n_2 ih_2 u hI H locs hP hD hS ls hl => ?_) (41) 0 (by show (0 ≤ 40 ∧ 40 < 0 + 41 ∧ 0 ≤ P_) ∧ ∀ p : Nat, p < 0 → ∀ a : Nat, a < 4 → ¬ (kt_side (fk p) = tu.toInt ∧ ¬ ff p = -1 ∧ kt_bar fh fr (fk p) lr.toInt (ff p).toInt w_ L_ a 1 = 0); exact ⟨⟨by decide, by decide, by omega⟩, fun p hp => absurd hp (Nat.not_lt_zero p)⟩) hP hD hS (lv_sub hl [0, 1, 2] rfl)
  obtain ⟨k, rfl⟩ : ∃ z, z = u := ⟨_, rfl⟩
  have hP : va_P D vwCl [(ru, .inr (6, [.ref la, .ref gr, .ref rk, .ref rs, .ref rt, .int tt, .int kg, .ref rv, .int vc])), (la, .inr (1, [.int lg, .int lh, .int lt, .int lr, .int lc])), (gr, .inr (0, [.ref gt, .ref gg, .ref gn, .int gs, .int gm])), (gt, .inl (cI, 81, .inl tg)), (gn, .inl (cI, 324, .inl nb)), (nw, .inr (8, [.ref sf, .ref sh, .int tu])), (sf, .inl (cI, 40, .inl ff)), (sh, .inl (cI, 81, .inl fh)), (rs, .inl (cI, 40, .inl fs))] H := hP
  have hD : va_D A [(ru, .inr (6, [.ref la, .ref gr, .ref rk, .ref rs, .ref rt, .int tt, .int kg, .ref rv, .int vc])), (la, .inr (1, [.int lg, .int lh, .int lt, .int lr, .int lc])), (gr, .inr (0, [.ref gt, .ref gg, .ref gn, .int gs, .int gm])), (gt, .inl (cI, 81, .inl tg)), (gn, .inl (cI, 324, .inl nb)), (nw, .inr (8, [.ref sf, .ref sh, .int tu])), (sf, .inl (cI, 40, .inl ff)), (sh, .inl (cI, 81, .inl fh)), (rs, .inl (cI, 40, .inl fs))] := hD
  have hl : lv_has ls 4 [(2, .int (nI k)), (0, .ref ru), (1, .ref nw)] := hl
  have hI : (k ≤ 40 ∧ 40 < k + (n_2 + 1) ∧ k ≤ P_) ∧ ∀ p : Nat, p < k → ∀ a : Nat, a < 4 → ¬ (kt_side (fk p) = tu.toInt ∧ ¬ ff p = -1 ∧ kt_bar fh fr (fk p) lr.toInt (ff p).toInt w_ L_ a 1 = 0) := hI
  obtain ⟨hkb, hno⟩ := hI
  have hk0 := kt_nI (n := k) (by omega)
  refine lv_iload_n hx hb dX6_canGo_2 rfl (lv_at hl 0 rfl) ?_
  refine lv_aload_n hx hb dX6_canGo_3 rfl (lv_at hl 1 rfl) ?_
  refine va_get (D := D) (ci := 6) (C := RX6) (T := TX6) (N := 9) hx hb hts iw_X6_canGo_X6 hown hK hP 0 rfl rfl 5 (by decide) (hts (.fieldLink RX6 40 "KingTable$Rules" "total" "I") (kt_wp_X6_canGo__X6_canGo_r1 kt_wm0)) (fun _ h9 => h9) rfl dX6_canGo_4 ?_
  refine lv_icmp_ge (tgt := 54) hx hb dX6_canGo_7 (by decide) (fun c_7 => ?_) (fun c_7 => ?_)
  · have d_7 := c_7
    simp only [kt_lt, kt_le, kt_eq, kt_c0, kt_c1, kt_c2, kt_c3, kt_c4, kt_c8, kt_c9, kt_cm1, kt_c81, kt_c40, kt_c7, kt_c5, kt_c6, kt_c512, kt_c10, kt_c10000] at d_7
    refine lv_iconst (v := 0) hx hb dX6_canGo_54 (by decide) ?_
    exact kt_rz () hx hb hr hlk hS dX6_canGo_55 hP hD (by show kt_B (0 : Int32) (kt_can P_ fh fr fk ff lr.toInt w_ L_ tu.toInt); first
        | exact Or.inl ⟨rfl, k, by omega, by rw [← hs17, c_22], fun h => by have h5 := hw_34.1 h; omega, w, by omega, by by_cases e : ff k = -1; (have h5 := hw_34.1 e; omega); exact (hw_34.2.1 e).pos.mp (by omega)⟩
        | exact Or.inr ⟨rfl, fun ⟨p, h1, h2, h3, a, h4, h5⟩ => hno p (by omega) a h4 ⟨h2, h3, h5⟩⟩) rfl
  · have d_7 := c_7
    simp only [kt_lt, kt_le, kt_eq, kt_c0, kt_c1, kt_c2, kt_c3, kt_c4, kt_c8, kt_c9, kt_cm1, kt_c81, kt_c40, kt_c7, kt_c5, kt_c6, kt_c512, kt_c10, kt_c10000] at d_7
    refine lv_iconst (v := 0) hx hb dX6_canGo_10 (by decide) ?_
    refine lv_istore_n (lv' := [(3, .int 0), (2, .int (nI k)), (0, .ref ru), (1, .ref nw)]) hx hb dX6_canGo_11 rfl hl (by decide) rfl (fun ls hl => ?_)
    refine kt_loop (σ := Nat) 12 4 (fun u => [(ru, .inr (6, [.ref la, .ref gr, .ref rk, .ref rs, .ref rt, .int tt, .int kg, .ref rv, .int vc])), (la, .inr (1, [.int lg, .int lh, .int lt, .int lr, .int lc])), (gr, .inr (0, [.ref gt, .ref gg, .ref gn, .int gs, .int gm])), (gt, .inl (cI, 81, .inl tg)), (gn, .inl (cI, 324, .inl nb)), (nw, .inr (8, [.ref sf, .ref sh, .int tu])), (sf, .inl (cI, 40, .inl ff)), (sh, .inl (cI, 81, .inl fh)), (rs, .inl (cI, 40, .inl fs))]) (fun u => [(3, .int (nI u)), (2, .int (nI k)), (0, .ref ru), (1, .ref nw)]) (fun n u => (u ≤ 4 ∧ 4 < u + n) ∧ ∀ a : Nat, a < u → ¬ (kt_side (fk k) = tu.toInt ∧ ¬ ff k = -1 ∧ kt_bar fh fr (fk k) lr.toInt (ff k).toInt w_ L_ a 1 = 0)) (fun u h => by omega) (fun n_12 ih_12 u hI H locs hP hD hS ls hl => ?_) (5) 0 (by show (0 ≤ 4 ∧ 4 < 0 + 5) ∧ ∀ a : Nat, a < 0 → ¬ (kt_side (fk k) = tu.toInt ∧ ¬ ff k = -1 ∧ kt_bar fh fr (fk k) lr.toInt (ff k).toInt w_ L_ a 1 = 0); exact ⟨by decide, fun a ha => absurd ha (Nat.not_lt_zero a)⟩) hP hD hS (lv_sub hl [0, 1, 2, 3] rfl)
    obtain ⟨w, rfl⟩ : ∃ z, z = u := ⟨_, rfl⟩
    have hP : va_P D vwCl [(ru, .inr (6, [.ref la, .ref gr, .ref rk, .ref rs, .ref rt, .int tt, .int kg, .ref rv, .int vc])), (la, .inr (1, [.int lg, .int lh, .int lt, .int lr, .int lc])), (gr, .inr (0, [.ref gt, .ref gg, .ref gn, .int gs, .int gm])), (gt, .inl (cI, 81, .inl tg)), (gn, .inl (cI, 324, .inl nb)), (nw, .inr (8, [.ref sf, .ref sh, .int tu])), (sf, .inl (cI, 40, .inl ff)), (sh, .inl (cI, 81, .inl fh)), (rs, .inl (cI, 40, .inl fs))] H := hP
    have hD : va_D A [(ru, .inr (6, [.ref la, .ref gr, .ref rk, .ref rs, .ref rt, .int tt, .int kg, .ref rv, .int vc])), (la, .inr (1, [.int lg, .int lh, .int lt, .int lr, .int lc])), (gr, .inr (0, [.ref gt, .ref gg, .ref gn, .int gs, .int gm])), (gt, .inl (cI, 81, .inl tg)), (gn, .inl (cI, 324, .inl nb)), (nw, .inr (8, [.ref sf, .ref sh, .int tu])), (sf, .inl (cI, 40, .inl ff)), (sh, .inl (cI, 81, .inl fh)), (rs, .inl (cI, 40, .inl fs))] := hD
    have hl : lv_has ls 4 [(3, .int (nI w)), (2, .int (nI k)), (0, .ref ru), (1, .ref nw)] := hl
    have hI : (w ≤ 4 ∧ 4 < w + (n_12 + 1)) ∧ ∀ a : Nat, a < w → ¬ (kt_side (fk k) = tu.toInt ∧ ¬ ff k = -1 ∧ kt_bar fh fr (fk k) lr.toInt (ff k).toInt w_ L_ a 1 = 0) := hI
    obtain ⟨hwb, hin⟩ := hI
    have hw0 := kt_nI (n := w) (by omega)
    refine lv_aload_n hx hb dX6_canGo_12 rfl (lv_at hl 2 rfl) ?_
    refine va_get (D := D) (ci := 6) (C := RX6) (T := TX6) (N := 9) hx hb hts iw_X6_canGo_X6 hown hK hP 0 rfl rfl 3 (by decide) (hts (.fieldLink RX6 22 "KingTable$Rules" "sides" "[I") (kt_wp_X6_canGo__X6_canGo_r1 kt_wm1)) (fun _ h9 => h9) rfl dX6_canGo_13 ?_
    refine lv_iload_n hx hb dX6_canGo_16 rfl (lv_at hl 1 rfl) ?_
    have hi_1 : vp_in (nI k) 40 := by exact kt_in (by omega) (by omega)
    refine va_iald hx hb hK hP 8 0 rfl rfl hi_1 dX6_canGo_17 ?_
    refine lv_topi (fun a_17 ea_17 => ?_)
    have ra_17 := hrs.get hi_1
    rw [← ea_17] at ra_17
    rw [nI_clamp (by omega)] at ea_17
    have hs17 := (hsd_ k (by omega)).1
    rw [← ea_17] at hs17
    refine lv_aload_n hx hb dX6_canGo_18 rfl (lv_at hl 3 rfl) ?_
    refine va_getN (D := D) (ci := 8) (C := RX8) (T := TX8) (N := 3) hx hb hts iw_X6_canGo_X8 hown hK hP 5 rfl rfl 2 (by decide) (va_Nw.use (w := .fieldLinkNest RX6 82 "KingTable$Stand" "turn" "I" "KingTable") rfl (hN _ (by decide +kernel))) (fun _ h9 => h9) rfl dX6_canGo_19 ?_
    refine lv_icmp_ne (tgt := 48) hx hb dX6_canGo_22 (by decide) (fun c_22 => ?_) (fun c_22 => ?_)
    · have d_22 := c_22
      simp only [kt_lt, kt_le, kt_eq, kt_c0, kt_c1, kt_c2, kt_c3, kt_c4, kt_c8, kt_c9, kt_cm1, kt_c81, kt_c40, kt_c7, kt_c5, kt_c6, kt_c512, kt_c10, kt_c10000] at d_22
      first | (have hsk : ¬ kt_side (fk k) = tu.toInt := fun h => c_22 ((kt_eq _ _).mpr (by rw [hs17]; exact h))) | skip
      refine lv_iinc (v := nI (k + 1)) (lv' := [(2, .int (nI (k + 1))), (3, .int (nI w)), (0, .ref ru), (1, .ref nw)]) hx hb dX6_canGo_48 hl (k := 1) rfl (nI_1 _) (by decide) rfl (fun ls hl => ?_)
      refine lv_goto (tgt := 2) hx hb dX6_canGo_51 (by decide) ?_
      exact ih_2 (k + 1) (by show ((k + 1) ≤ 40 ∧ 40 < (k + 1) + n_2 ∧ (k + 1) ≤ P_) ∧ ∀ p : Nat, p < (k + 1) → ∀ a : Nat, a < 4 → ¬ (kt_side (fk p) = tu.toInt ∧ ¬ ff p = -1 ∧ kt_bar fh fr (fk p) lr.toInt (ff p).toInt w_ L_ a 1 = 0); exact ⟨by omega, fun p hp a ha => if e : p = k then (by rw [e]; first | exact fun h => hsk h.1 | exact hin a (by omega)) else hno p (by omega) a ha⟩) H _ hP hD hS ls (lv_sub hl [0, 2, 3] rfl)
    · have d_22 := c_22
      simp only [kt_lt, kt_le, kt_eq, kt_c0, kt_c1, kt_c2, kt_c3, kt_c4, kt_c8, kt_c9, kt_cm1, kt_c81, kt_c40, kt_c7, kt_c5, kt_c6, kt_c512, kt_c10, kt_c10000] at d_22
      refine lv_iload_n hx hb dX6_canGo_25 rfl (lv_at hl 0 rfl) ?_
      refine lv_iconst (v := 4) hx hb dX6_canGo_26 (by decide) ?_
      refine lv_icmp_ge (tgt := 48) hx hb dX6_canGo_27 (by decide) (fun c_27 => ?_) (fun c_27 => ?_)
      · have d_27 := c_27
        simp only [kt_lt, kt_le, kt_eq, kt_c0, kt_c1, kt_c2, kt_c3, kt_c4, kt_c8, kt_c9, kt_cm1, kt_c81, kt_c40, kt_c7, kt_c5, kt_c6, kt_c512, kt_c10, kt_c10000] at d_27
        first | (have hsk : ¬ kt_side (fk k) = tu.toInt := fun h => c_22 ((kt_eq _ _).mpr (by rw [hs17]; exact h))) | skip
        refine lv_iinc (v := nI (k + 1)) (lv' := [(2, .int (nI (k + 1))), (3, .int (nI w)), (0, .ref ru), (1, .ref nw)]) hx hb dX6_canGo_48 hl (k := 1) rfl (nI_1 _) (by decide) rfl (fun ls hl => ?_)
        refine lv_goto (tgt := 2) hx hb dX6_canGo_51 (by decide) ?_
        exact ih_2 (k + 1) (by show ((k + 1) ≤ 40 ∧ 40 < (k + 1) + n_2 ∧ (k + 1) ≤ P_) ∧ ∀ p : Nat, p < (k + 1) → ∀ a : Nat, a < 4 → ¬ (kt_side (fk p) = tu.toInt ∧ ¬ ff p = -1 ∧ kt_bar fh fr (fk p) lr.toInt (ff p).toInt w_ L_ a 1 = 0); exact ⟨by omega, fun p hp a ha => if e : p = k then (by rw [e]; first | exact fun h => hsk h.1 | exact hin a (by omega)) else hno p (by omega) a ha⟩) H _ hP hD hS ls (lv_sub hl [0, 2, 3] rfl)
      · have d_27 := c_27
        simp only [kt_lt, kt_le, kt_eq, kt_c0, kt_c1, kt_c2, kt_c3, kt_c4, kt_c8, kt_c9, kt_cm1, kt_c81, kt_c40, kt_c7, kt_c5, kt_c6, kt_c512, kt_c10, kt_c10000] at d_27
        refine lv_aload_n hx hb dX6_canGo_30 rfl (lv_at hl 2 rfl) ?_
        refine lv_aload_n hx hb dX6_canGo_31 rfl (lv_at hl 3 rfl) ?_
        refine lv_iload_n hx hb dX6_canGo_32 rfl (lv_at hl 1 rfl) ?_
        refine lv_iload_n hx hb dX6_canGo_33 rfl (lv_at hl 0 rfl) ?_
        refine kt_pi (wc := [(ru, .inr (6, [.ref la, .ref gr, .ref rk, .ref rs, .ref rt, .int tt, .int kg, .ref rv, .int vc])), (la, .inr (1, [.int lg, .int lh, .int lt, .int lr, .int lc])), (gr, .inr (0, [.ref gt, .ref gg, .ref gn, .int gs, .int gm])), (gt, .inl (cI, 81, .inl tg)), (gn, .inl (cI, 324, .inl nb)), (nw, .inr (8, [.ref sf, .ref sh, .int tu])), (sf, .inl (cI, 40, .inl ff)), (sh, .inl (cI, 81, .inl fh))]) [0, 1, 2, 3, 4, 5, 6, 7] hP hD hS hA rfl (by decide) (fun hPc hDc => va_runV (As := [.ref nw, .int (nI k), .int (nI w)]) (rest := []) ⟨hx, hb, hml, hown, hts⟩ (c_X6_roomE l D cI cZ cB H.size ru la gr rk rs rt rv tt kg vc lg lh lt lr lc gt gg gn gs gm tg nb nw sf sh tu ff fh w_ L_ P_ gl fk fs ft fr ck (nI k) (nI w) hgs hgt hnb hff hfh hlr hrx0 hfp (by omega) (by omega)) (cwV 3 hts gX6_canGo_X6_room rfl rfl rfl (by decide +kernel) ⟨Nat.le_of_ble_eq_true rfl, Nat.le_of_ble_eq_true rfl⟩) (kt_preV hN hK hPc hDc 0 (ci := 6) (q := (RX6, TX6, 9)) rfl rfl) rfl rfl hl.1 rfl (lv_room (Nat.le_of_ble_eq_true rfl)) dX6_canGo_34 ⟨Nat.le_of_ble_eq_true rfl, Nat.le_of_ble_eq_true rfl⟩) (fun r_34 _ H locs hw_34 hP hS => ?_)
        rw [nI_clamp (by omega), hw0] at hw_34
        refine lv_if_le (tgt := 42) hx hb dX6_canGo_37 (by decide) (fun c_37 => ?_) (fun c_37 => ?_)
        · have d_37 := c_37
          simp only [kt_lt, kt_le, kt_eq, kt_c0, kt_c1, kt_c2, kt_c3, kt_c4, kt_c8, kt_c9, kt_cm1, kt_c81, kt_c40, kt_c7, kt_c5, kt_c6, kt_c512, kt_c10, kt_c10000] at d_37
          refine lv_iinc (v := nI (w + 1)) (lv' := [(3, .int (nI (w + 1))), (2, .int (nI k)), (0, .ref ru), (1, .ref nw)]) hx hb dX6_canGo_42 hl (k := 0) rfl (nI_1 _) (by decide) rfl (fun ls hl => ?_)
          refine lv_goto (tgt := 12) hx hb dX6_canGo_45 (by decide) ?_
          exact ih_12 (w + 1) (by show ((w + 1) ≤ 4 ∧ 4 < (w + 1) + n_12) ∧ ∀ a : Nat, a < (w + 1) → ¬ (kt_side (fk k) = tu.toInt ∧ ¬ ff k = -1 ∧ kt_bar fh fr (fk k) lr.toInt (ff k).toInt w_ L_ a 1 = 0); exact ⟨by omega, fun a ha => if e : a = w then (by rw [e]; exact fun h => by have h5 := (hw_34.2.1 h.2.1).pos.mpr h.2.2; omega) else hin a (by omega)⟩) H _ hP hD hS ls (lv_sub hl [0, 1, 2, 3] rfl)
        · have d_37 := c_37
          simp only [kt_lt, kt_le, kt_eq, kt_c0, kt_c1, kt_c2, kt_c3, kt_c4, kt_c8, kt_c9, kt_cm1, kt_c81, kt_c40, kt_c7, kt_c5, kt_c6, kt_c512, kt_c10, kt_c10000] at d_37
          refine lv_iconst (v := 1) hx hb dX6_canGo_40 (by decide) ?_
          exact kt_rz () hx hb hr hlk hS dX6_canGo_41 hP hD (by show kt_B (1 : Int32) (kt_can P_ fh fr fk ff lr.toInt w_ L_ tu.toInt); first
              | exact Or.inl ⟨rfl, k, by omega, by rw [← hs17, c_22], fun h => by have h5 := hw_34.1 h; omega, w, by omega, by by_cases e : ff k = -1; (have h5 := hw_34.1 e; omega); exact (hw_34.2.1 e).pos.mp (by omega)⟩
              | exact Or.inr ⟨rfl, fun ⟨p, h1, h2, h3, a, h4, h5⟩ => hno p (by omega) a h4 ⟨h2, h3, h5⟩⟩) rfl

set_option maxHeartbeats 4000000 in
set_option maxRecDepth 100000 in
theorem c_X6_winnerE (l : Launch) (D : va_G) (cI cZ cB : ClassId) (sz : Nat) (ru : Nat) (la : Nat) (gr : Nat) (rk : Nat) (rs : Nat) (rt : Nat) (rv : Nat) (tt : Int32) (kg : Int32) (vc : Int32) (lg : Int32) (lh : Int32) (lt : Int32) (lr : Int32) (lc : Int32) (gt : Nat) (gg : Nat) (gn : Nat) (gs : Int32) (gm : Int32) (tg : Nat → Int32) (nb : Nat → Int32) (nw : Nat) (sf : Nat) (sh : Nat) (tu : Int32) (ff : Nat → Int32) (fh : Nat → Int32) (w_ : Int) (L_ : Int) (P_ : Nat) (gl : Nat → Int32) (fk : Nat → Int32) (fs : Nat → Int32) (ft : Nat → Int32) (fr : Nat → Int32) (ck : Nat → Int32) (hgs : 0 ≤ gs.toInt ∧ gs.toInt ≤ 81) (hgt : kt_r tg 81 0 2) (hnb : kt_r nb 324 (-1) 80) (hff : kt_r ff 40 (-1) 80) (hfh : kt_r fh 81 (-1) 39) (hlr : 0 ≤ lr.toInt ∧ lr.toInt ≤ 8) (htt : 0 ≤ tt.toInt ∧ tt.toInt ≤ 40) (hrs : kt_r fs 40 0 1) (hgg : kt_r gl 81 0 1) (htu : 0 ≤ tu.toInt ∧ tu.toInt ≤ 1) (hrx : kt_RX w_ L_ P_ tt kg gs lg lt tg gl nb fk fs ft fr ck) (hfp : kt_r ff P_ (-1) (L_ * w_ - 1)) : kt_Mi l yX6_winner wsX6_winner { frames := 3, cells := 0, slots := 0, locals := 72 } D (kt_ty cI cZ cB) [.ref ru, .ref nw] sz [(ru, .inr (6, [.ref la, .ref gr, .ref rk, .ref rs, .ref rt, .int tt, .int kg, .ref rv, .int vc])), (la, .inr (1, [.int lg, .int lh, .int lt, .int lr, .int lc])), (gr, .inr (0, [.ref gt, .ref gg, .ref gn, .int gs, .int gm])), (gt, .inl (cI, 81, .inl tg)), (gn, .inl (cI, 324, .inl nb)), (nw, .inr (8, [.ref sf, .ref sh, .int tu])), (sf, .inl (cI, 40, .inl ff)), (sh, .inl (cI, 81, .inl fh)), (rs, .inl (cI, 40, .inl fs)), (gg, .inl (cZ, 81, .inl gl))] (fun (r : Int32) (u : Unit) => kt_WN (ff kg.toNatClampNeg = -1) (kt_goR lg w_ L_ (fr (ff kg.toNatClampNeg).toNatClampNeg) (ff kg.toNatClampNeg).toInt) (kt_can P_ fh fr fk ff lr.toInt w_ L_ tu.toInt) tu.toInt r.toInt ∧ -1 ≤ r.toInt ∧ r.toInt ≤ 1) (fun (u : Unit) => [(ru, .inr (6, [.ref la, .ref gr, .ref rk, .ref rs, .ref rt, .int tt, .int kg, .ref rv, .int vc])), (la, .inr (1, [.int lg, .int lh, .int lt, .int lr, .int lc])), (gr, .inr (0, [.ref gt, .ref gg, .ref gn, .int gs, .int gm])), (gt, .inl (cI, 81, .inl tg)), (gn, .inl (cI, 324, .inl nb)), (nw, .inr (8, [.ref sf, .ref sh, .int tu])), (sf, .inl (cI, 40, .inl ff)), (sh, .inl (cI, 81, .inl fh)), (rs, .inl (cI, 40, .inl fs)), (gg, .inl (cZ, 81, .inl gl))]) 0 0 := by
  refine kt_Mi.of (cc := cX6_winner) (maxL := 3) (ret := some .int) (by decide) rfl (Nat.le_of_ble_eq_true rfl) ?_
  intro p e s m below meth c A ls H hAt hP hD hS hl
  obtain ⟨hx, hb, hr, hml, hown, hts, hN, hK, hlk, hnm, hA⟩ := hAt
  have hl : lv_has ls 3 [(0, .ref ru), (1, .ref nw)] := hl
  have hown : s.vm.findClass RX6 = some m.cls := hown
  have hrx0 := hrx
  obtain ⟨hgx, hnx, htf, ⟨htP, hP40⟩, hsd_, hkq, hck, hkr⟩ := hrx
  have hgx1 := hgx.1
  have hw_ := hgx.2.1
  have hL_ := hgx.2.2
  have httP : tt.toInt = (P_ : Int) := by rw [htP, kt_nI (by omega)]
  have hX := hfp.get (kt_in (x := kg) (n := P_) (by omega) (by omega))
  refine lv_aload_n hx hb dX6_winner_0 rfl (lv_at hl 1 rfl) ?_
  refine lv_aload_n hx hb dX6_winner_1 rfl (lv_at hl 0 rfl) ?_
  refine va_get (D := D) (ci := 6) (C := RX6) (T := TX6) (N := 9) hx hb hts iw_X6_winner_X6 hown hK hP 0 rfl rfl 6 (by decide) (hts (.fieldLink RX6 29 "KingTable$Rules" "king" "I") (kt_wp_X6_winner__X6_winner_r1 kt_wm0)) (fun _ h9 => h9) rfl dX6_winner_2 ?_
  refine kt_pi (wc := [(nw, .inr (8, [.ref sf, .ref sh, .int tu])), (sf, .inl (cI, 40, .inl ff))]) [5, 6] hP hD hS hA rfl (by decide) (fun hPc hDc => va_runV (As := [.int kg]) (rest := []) ⟨hx, hb, hml, hown, hts⟩ (c_X8_fieldOfE l D cI cZ cB H.size nw sf sh tu ff kg hff) (cwV 1 hts gX6_winner_X8_fieldOf rfl rfl rfl (by decide +kernel) ⟨Nat.le_of_ble_eq_true rfl, Nat.le_of_ble_eq_true rfl⟩) (kt_preV hN hK hPc hDc 0 (ci := 8) (q := (RX8, TX8, 3)) rfl rfl) rfl rfl hl.1 rfl (lv_room (Nat.le_of_ble_eq_true rfl)) dX6_winner_5 ⟨Nat.le_of_ble_eq_true rfl, Nat.le_of_ble_eq_true rfl⟩) (fun r_5 _ H locs hw_5 hP hS => ?_)
  have e5 := hw_5.1 (by omega)
  have i5 := congrArg Int32.toInt e5
  refine lv_istore_n (lv' := [(2, .int r_5), (0, .ref ru), (1, .ref nw)]) hx hb dX6_winner_8 rfl hl (by decide) rfl (fun ls hl => ?_)
  refine lv_iload_n hx hb dX6_winner_9 rfl (lv_at hl 0 rfl) ?_
  refine lv_iconst (v := (-1)) hx hb dX6_winner_10 (by decide) ?_
  refine lv_icmp_ne (tgt := 16) hx hb dX6_winner_11 (by decide) (fun c_11 => ?_) (fun c_11 => ?_)
  · have d_11 := c_11
    simp only [kt_lt, kt_le, kt_eq, kt_c0, kt_c1, kt_c2, kt_c3, kt_c4, kt_c8, kt_c9, kt_cm1, kt_c81, kt_c40, kt_c7, kt_c5, kt_c6, kt_c512, kt_c10, kt_c10000] at d_11
    have hnk : ¬ ff kg.toNatClampNeg = -1 := fun h => c_11 (e5.trans h)
    have hgo := (htf (ff kg.toNatClampNeg).toInt.toNat (by omega)).2.2.nz
    rw [show (((ff kg.toNatClampNeg).toInt.toNat : Nat) : Int) = (ff kg.toNatClampNeg).toInt by omega] at hgo
    refine lv_aload_n hx hb dX6_winner_16 rfl (lv_at hl 1 rfl) ?_
    refine lv_iload_n hx hb dX6_winner_17 rfl (lv_at hl 0 rfl) ?_
    refine kt_pi (wc := [(ru, .inr (6, [.ref la, .ref gr, .ref rk, .ref rs, .ref rt, .int tt, .int kg, .ref rv, .int vc])), (gr, .inr (0, [.ref gt, .ref gg, .ref gn, .int gs, .int gm])), (gg, .inl (cZ, 81, .inl gl))]) [0, 2, 9] hP hD hS hA rfl (by decide) (fun hPc hDc => va_runV (As := [.int r_5]) (rest := []) ⟨hx, hb, hml, hown, hts⟩ (c_X6_isGoalE l D cI cZ cB H.size ru la gr rk rs rt rv tt kg vc gt gg gn gs gm gl r_5 hgs hgg) (cwV 1 hts gX6_winner_X6_isGoal rfl rfl rfl (by decide +kernel) ⟨Nat.le_of_ble_eq_true rfl, Nat.le_of_ble_eq_true rfl⟩) (kt_preV hN hK hPc hDc 0 (ci := 6) (q := (RX6, TX6, 9)) rfl rfl) rfl rfl hl.1 rfl (lv_room (Nat.le_of_ble_eq_true rfl)) dX6_winner_18 ⟨Nat.le_of_ble_eq_true rfl, Nat.le_of_ble_eq_true rfl⟩) (fun r_18 _ H locs hw_18 hP hS => ?_)
    rw [e5] at hw_18
    refine lv_if_eq (tgt := 26) hx hb dX6_winner_21 (by decide) (fun c_21 => ?_) (fun c_21 => ?_)
    · have d_21 := c_21
      simp only [kt_lt, kt_le, kt_eq, kt_c0, kt_c1, kt_c2, kt_c3, kt_c4, kt_c8, kt_c9, kt_cm1, kt_c81, kt_c40, kt_c7, kt_c5, kt_c6, kt_c512, kt_c10, kt_c10000] at d_21
      refine lv_aload_n hx hb dX6_winner_26 rfl (lv_at hl 1 rfl) ?_
      refine lv_aload_n hx hb dX6_winner_27 rfl (lv_at hl 2 rfl) ?_
      refine kt_pi (wc := [(ru, .inr (6, [.ref la, .ref gr, .ref rk, .ref rs, .ref rt, .int tt, .int kg, .ref rv, .int vc])), (la, .inr (1, [.int lg, .int lh, .int lt, .int lr, .int lc])), (gr, .inr (0, [.ref gt, .ref gg, .ref gn, .int gs, .int gm])), (gt, .inl (cI, 81, .inl tg)), (gn, .inl (cI, 324, .inl nb)), (nw, .inr (8, [.ref sf, .ref sh, .int tu])), (sf, .inl (cI, 40, .inl ff)), (sh, .inl (cI, 81, .inl fh)), (rs, .inl (cI, 40, .inl fs))]) [0, 1, 2, 3, 4, 5, 6, 7, 8] hP hD hS hA rfl (by decide) (fun hPc hDc => va_runV (As := [.ref nw]) (rest := []) ⟨hx, hb, hml, hown, hts⟩ (c_X6_canGoE l D cI cZ cB H.size ru la gr rk rs rt rv tt kg vc lg lh lt lr lc gt gg gn gs gm tg nb nw sf sh tu ff fh w_ L_ P_ gl fk fs ft fr ck hgs hgt hnb hff hfh hlr htt hrs hrx0 hfp) (cwV 1 hts gX6_winner_X6_canGo rfl rfl rfl (by decide +kernel) ⟨Nat.le_of_ble_eq_true rfl, Nat.le_of_ble_eq_true rfl⟩) (kt_preV hN hK hPc hDc 0 (ci := 6) (q := (RX6, TX6, 9)) rfl rfl) rfl rfl hl.1 rfl (lv_room (Nat.le_of_ble_eq_true rfl)) dX6_winner_28 ⟨Nat.le_of_ble_eq_true rfl, Nat.le_of_ble_eq_true rfl⟩) (fun r_28 _ H locs hw_28 hP hS => ?_)
      
      refine lv_if_eq (tgt := 38) hx hb dX6_winner_31 (by decide) (fun c_31 => ?_) (fun c_31 => ?_)
      · have d_31 := c_31
        simp only [kt_lt, kt_le, kt_eq, kt_c0, kt_c1, kt_c2, kt_c3, kt_c4, kt_c8, kt_c9, kt_cm1, kt_c81, kt_c40, kt_c7, kt_c5, kt_c6, kt_c512, kt_c10, kt_c10000] at d_31
        refine lv_iconst (v := 1) hx hb dX6_winner_38 (by decide) ?_
        refine lv_aload_n hx hb dX6_winner_39 rfl (lv_at hl 2 rfl) ?_
        refine va_getN (D := D) (ci := 8) (C := RX8) (T := TX8) (N := 3) hx hb hts iw_X6_winner_X8 hown hK hP 5 rfl rfl 2 (by decide) (va_Nw.use (w := .fieldLinkNest RX6 82 "KingTable$Stand" "turn" "I" "KingTable") rfl (hN _ (by decide +kernel))) (fun _ h9 => h9) rfl dX6_winner_40 ?_
        refine lv_isub hx hb dX6_winner_43 ?_
        refine lv_topi (fun t_43 et_43 => ?_)
        first | have hk_43 := kt_subx et_43 (by first | omega | (simp only [kt_c0, kt_c1, kt_c2, kt_c3, kt_c4, kt_c8, kt_c9, kt_cm1, kt_c81, kt_c40, kt_c7, kt_c5, kt_c6, kt_c512, kt_c10, kt_c10000]; omega)) (by first | omega | (simp only [kt_c0, kt_c1, kt_c2, kt_c3, kt_c4, kt_c8, kt_c9, kt_cm1, kt_c81, kt_c40, kt_c7, kt_c5, kt_c6, kt_c512, kt_c10, kt_c10000]; omega)) | obtain ⟨k_43, hk_43, hm_43, hM_43⟩ := kt_subk et_43
        try simp only [kt_c0, kt_c1, kt_c2, kt_c3, kt_c4, kt_c8, kt_c9, kt_cm1, kt_c81, kt_c40, kt_c7, kt_c5, kt_c6, kt_c512, kt_c10, kt_c10000] at hk_43
        exact kt_ri () hx hb hr hlk hS dX6_winner_44 hP hD (by show kt_WN (ff kg.toNatClampNeg = -1) (kt_goR lg w_ L_ (fr (ff kg.toNatClampNeg).toNatClampNeg) (ff kg.toNatClampNeg).toInt) (kt_can P_ fh fr fk ff lr.toInt w_ L_ tu.toInt) tu.toInt t_43.toInt ∧ -1 ≤ t_43.toInt ∧ t_43.toInt ≤ 1; first
            | exact ⟨Or.inl ⟨e5.symm.trans c_11, by decide⟩, by decide⟩
            | exact ⟨Or.inr (Or.inl ⟨hnk, hgo.mp (hw_18.t c_21).2.2, by decide⟩), by decide⟩
            | exact ⟨Or.inr (Or.inr (Or.inl ⟨hnk, fun h => (hw_18.f c_21) ⟨by omega, by omega, hgo.mpr h⟩, hw_28.t c_31, by decide⟩)), by decide⟩
            | exact ⟨Or.inr (Or.inr (Or.inr ⟨hnk, fun h => (hw_18.f c_21) ⟨by omega, by omega, hgo.mpr h⟩, hw_28.f c_31, by omega⟩)), by omega⟩)
      · have d_31 := c_31
        simp only [kt_lt, kt_le, kt_eq, kt_c0, kt_c1, kt_c2, kt_c3, kt_c4, kt_c8, kt_c9, kt_cm1, kt_c81, kt_c40, kt_c7, kt_c5, kt_c6, kt_c512, kt_c10, kt_c10000] at d_31
        refine lv_iconst (v := (-1)) hx hb dX6_winner_34 (by decide) ?_
        refine lv_goto (tgt := 44) hx hb dX6_winner_35 (by decide) ?_
        exact kt_ri () hx hb hr hlk hS dX6_winner_44 hP hD (by show kt_WN (ff kg.toNatClampNeg = -1) (kt_goR lg w_ L_ (fr (ff kg.toNatClampNeg).toNatClampNeg) (ff kg.toNatClampNeg).toInt) (kt_can P_ fh fr fk ff lr.toInt w_ L_ tu.toInt) tu.toInt (-1 : Int32).toInt ∧ -1 ≤ (-1 : Int32).toInt ∧ (-1 : Int32).toInt ≤ 1; first
            | exact ⟨Or.inl ⟨e5.symm.trans c_11, by decide⟩, by decide⟩
            | exact ⟨Or.inr (Or.inl ⟨hnk, hgo.mp (hw_18.t c_21).2.2, by decide⟩), by decide⟩
            | exact ⟨Or.inr (Or.inr (Or.inl ⟨hnk, fun h => (hw_18.f c_21) ⟨by omega, by omega, hgo.mpr h⟩, hw_28.t c_31, by decide⟩)), by decide⟩
            | exact ⟨Or.inr (Or.inr (Or.inr ⟨hnk, fun h => (hw_18.f c_21) ⟨by omega, by omega, hgo.mpr h⟩, hw_28.f c_31, by omega⟩)), by omega⟩)
    · have d_21 := c_21
      simp only [kt_lt, kt_le, kt_eq, kt_c0, kt_c1, kt_c2, kt_c3, kt_c4, kt_c8, kt_c9, kt_cm1, kt_c81, kt_c40, kt_c7, kt_c5, kt_c6, kt_c512, kt_c10, kt_c10000] at d_21
      refine lv_iconst (v := 0) hx hb dX6_winner_24 (by decide) ?_
      exact kt_ri () hx hb hr hlk hS dX6_winner_25 hP hD (by show kt_WN (ff kg.toNatClampNeg = -1) (kt_goR lg w_ L_ (fr (ff kg.toNatClampNeg).toNatClampNeg) (ff kg.toNatClampNeg).toInt) (kt_can P_ fh fr fk ff lr.toInt w_ L_ tu.toInt) tu.toInt (0 : Int32).toInt ∧ -1 ≤ (0 : Int32).toInt ∧ (0 : Int32).toInt ≤ 1; first
          | exact ⟨Or.inl ⟨e5.symm.trans c_11, by decide⟩, by decide⟩
          | exact ⟨Or.inr (Or.inl ⟨hnk, hgo.mp (hw_18.t c_21).2.2, by decide⟩), by decide⟩
          | exact ⟨Or.inr (Or.inr (Or.inl ⟨hnk, fun h => (hw_18.f c_21) ⟨by omega, by omega, hgo.mpr h⟩, hw_28.t c_31, by decide⟩)), by decide⟩
          | exact ⟨Or.inr (Or.inr (Or.inr ⟨hnk, fun h => (hw_18.f c_21) ⟨by omega, by omega, hgo.mpr h⟩, hw_28.f c_31, by omega⟩)), by omega⟩)
  · have d_11 := c_11
    simp only [kt_lt, kt_le, kt_eq, kt_c0, kt_c1, kt_c2, kt_c3, kt_c4, kt_c8, kt_c9, kt_cm1, kt_c81, kt_c40, kt_c7, kt_c5, kt_c6, kt_c512, kt_c10, kt_c10000] at d_11
    refine lv_iconst (v := 1) hx hb dX6_winner_14 (by decide) ?_
    exact kt_ri () hx hb hr hlk hS dX6_winner_15 hP hD (by show kt_WN (ff kg.toNatClampNeg = -1) (kt_goR lg w_ L_ (fr (ff kg.toNatClampNeg).toNatClampNeg) (ff kg.toNatClampNeg).toInt) (kt_can P_ fh fr fk ff lr.toInt w_ L_ tu.toInt) tu.toInt (1 : Int32).toInt ∧ -1 ≤ (1 : Int32).toInt ∧ (1 : Int32).toInt ≤ 1; first
        | exact ⟨Or.inl ⟨e5.symm.trans c_11, by decide⟩, by decide⟩
        | exact ⟨Or.inr (Or.inl ⟨hnk, hgo.mp (hw_18.t c_21).2.2, by decide⟩), by decide⟩
        | exact ⟨Or.inr (Or.inr (Or.inl ⟨hnk, fun h => (hw_18.f c_21) ⟨by omega, by omega, hgo.mpr h⟩, hw_28.t c_31, by decide⟩)), by decide⟩
        | exact ⟨Or.inr (Or.inr (Or.inr ⟨hnk, fun h => (hw_18.f c_21) ⟨by omega, by omega, hgo.mpr h⟩, hw_28.f c_31, by omega⟩)), by omega⟩)

set_option maxHeartbeats 4000000 in
set_option maxRecDepth 100000 in
theorem c_X4_settleE (l : Launch) (D : va_G) (cI cZ cB : ClassId) (sz : Nat) (pl : Nat) (st : Int32) (ru : Nat) (la : Nat) (gr : Nat) (rk : Nat) (rs : Nat) (rt : Nat) (rv : Nat) (tt : Int32) (kg : Int32) (vc : Int32) (lg : Int32) (lh : Int32) (lt : Int32) (lr : Int32) (lc : Int32) (gt : Nat) (gg : Nat) (gn : Nat) (gs : Int32) (gm : Int32) (tg : Nat → Int32) (nb : Nat → Int32) (nw : Nat) (sf : Nat) (sh : Nat) (tu : Int32) (ff : Nat → Int32) (fh : Nat → Int32) (w_ : Int) (L_ : Int) (P_ : Nat) (gl : Nat → Int32) (fk : Nat → Int32) (fs : Nat → Int32) (ft : Nat → Int32) (fr : Nat → Int32) (ck : Nat → Int32) (lo : Nat) (p1 : Int32) (hgs : 0 ≤ gs.toInt ∧ gs.toInt ≤ 81) (hgt : kt_r tg 81 0 2) (hnb : kt_r nb 324 (-1) 80) (hff : kt_r ff 40 (-1) 80) (hfh : kt_r fh 81 (-1) 39) (hlr : 0 ≤ lr.toInt ∧ lr.toInt ≤ 8) (htt : 0 ≤ tt.toInt ∧ tt.toInt ≤ 40) (hrs : kt_r fs 40 0 1) (hgg : kt_r gl 81 0 1) (htu : 0 ≤ tu.toInt ∧ tu.toInt ≤ 1) (hrx : kt_RX w_ L_ P_ tt kg gs lg lt tg gl nb fk fs ft fr ck) (hfp : kt_r ff P_ (-1) (L_ * w_ - 1)) : kt_Mv l yX4_settle wsX4_settle { frames := 4, cells := 0, slots := 0, locals := 94 } D (kt_ty cI cZ cB) [.ref pl, .int p1] sz [(pl, .inr (4, [.ref la, .ref ru, .ref nw, .ref lo, .int st])), (ru, .inr (6, [.ref la, .ref gr, .ref rk, .ref rs, .ref rt, .int tt, .int kg, .ref rv, .int vc])), (la, .inr (1, [.int lg, .int lh, .int lt, .int lr, .int lc])), (gr, .inr (0, [.ref gt, .ref gg, .ref gn, .int gs, .int gm])), (gt, .inl (cI, 81, .inl tg)), (gn, .inl (cI, 324, .inl nb)), (nw, .inr (8, [.ref sf, .ref sh, .int tu])), (sf, .inl (cI, 40, .inl ff)), (sh, .inl (cI, 81, .inl fh)), (rs, .inl (cI, 40, .inl fs)), (gg, .inl (cZ, 81, .inl gl))] (fun (u : Int32) => kt_HW (ff kg.toNatClampNeg = -1) (kt_goR lg w_ L_ (fr (ff kg.toNatClampNeg).toNatClampNeg) (ff kg.toNatClampNeg).toInt) (kt_can P_ fh fr fk ff lr.toInt w_ L_ tu.toInt) (¬ p1 = 0 ∧ lc = 0) tu.toInt u.toInt ∧ 1 ≤ u.toInt ∧ u.toInt ≤ 4) (fun (u : Int32) => [(pl, .inr (4, [.ref la, .ref ru, .ref nw, .ref lo, .int u])), (ru, .inr (6, [.ref la, .ref gr, .ref rk, .ref rs, .ref rt, .int tt, .int kg, .ref rv, .int vc])), (la, .inr (1, [.int lg, .int lh, .int lt, .int lr, .int lc])), (gr, .inr (0, [.ref gt, .ref gg, .ref gn, .int gs, .int gm])), (gt, .inl (cI, 81, .inl tg)), (gn, .inl (cI, 324, .inl nb)), (nw, .inr (8, [.ref sf, .ref sh, .int tu])), (sf, .inl (cI, 40, .inl ff)), (sh, .inl (cI, 81, .inl fh)), (rs, .inl (cI, 40, .inl fs)), (gg, .inl (cZ, 81, .inl gl))]) 0 0 := by
  refine kt_Mv.of (cc := cX4_settle) (maxL := 3) (ret := none) (by decide) rfl (Nat.le_of_ble_eq_true rfl) ?_
  intro p e s m below meth c A ls H hAt hP hD hS hl
  obtain ⟨hx, hb, hr, hml, hown, hts, hN, hK, hlk, hnm, hA⟩ := hAt
  have hl : lv_has ls 3 [(0, .ref pl), (1, .int p1)] := hl
  have hown : s.vm.findClass RX4 = some m.cls := hown
  refine lv_aload_n hx hb dX4_settle_0 rfl (lv_at hl 0 rfl) ?_
  refine va_get (D := D) (ci := 4) (C := RX4) (T := TX4) (N := 5) hx hb hts iw_X4_settle_X4 hown hK hP 0 rfl rfl 1 (by decide) (hts (.fieldLink RX4 33 "KingTable$Play" "rules" "LKingTable$Rules;") (kt_wp_X4_settle__X4_settle_r1 kt_wm0)) (fun _ h9 => h9) rfl dX4_settle_1 ?_
  refine lv_aload_n hx hb dX4_settle_4 rfl (lv_at hl 0 rfl) ?_
  refine va_get (D := D) (ci := 4) (C := RX4) (T := TX4) (N := 5) hx hb hts iw_X4_settle_X4 hown hK hP 0 rfl rfl 2 (by decide) (hts (.fieldLink RX4 12 "KingTable$Play" "now" "LKingTable$Stand;") (kt_wp_X4_settle__X4_settle_r1 kt_wm1)) (fun _ h9 => h9) rfl dX4_settle_5 ?_
  refine kt_pi (wc := [(ru, .inr (6, [.ref la, .ref gr, .ref rk, .ref rs, .ref rt, .int tt, .int kg, .ref rv, .int vc])), (la, .inr (1, [.int lg, .int lh, .int lt, .int lr, .int lc])), (gr, .inr (0, [.ref gt, .ref gg, .ref gn, .int gs, .int gm])), (gt, .inl (cI, 81, .inl tg)), (gn, .inl (cI, 324, .inl nb)), (nw, .inr (8, [.ref sf, .ref sh, .int tu])), (sf, .inl (cI, 40, .inl ff)), (sh, .inl (cI, 81, .inl fh)), (rs, .inl (cI, 40, .inl fs)), (gg, .inl (cZ, 81, .inl gl))]) [1, 2, 3, 4, 5, 6, 7, 8, 9, 10] hP hD hS hA rfl (by decide) (fun hPc hDc => va_runV (As := [.ref nw]) (rest := []) ⟨hx, hb, hml, hown, hts⟩ (c_X6_winnerE l D cI cZ cB H.size ru la gr rk rs rt rv tt kg vc lg lh lt lr lc gt gg gn gs gm tg nb nw sf sh tu ff fh w_ L_ P_ gl fk fs ft fr ck hgs hgt hnb hff hfh hlr htt hrs hgg htu hrx hfp) (cwV 1 hts gX4_settle_X6_winner rfl rfl rfl (by decide +kernel) ⟨Nat.le_of_ble_eq_true rfl, Nat.le_of_ble_eq_true rfl⟩) (kt_preV hN hK hPc hDc 0 (ci := 6) (q := (RX6, TX6, 9)) rfl rfl) rfl rfl hl.1 rfl (lv_room (Nat.le_of_ble_eq_true rfl)) dX4_settle_8 ⟨Nat.le_of_ble_eq_true rfl, Nat.le_of_ble_eq_true rfl⟩) (fun r_8 _ H locs hw_8 hP hS => ?_)
  obtain ⟨hwn, hwr⟩ := hw_8
  refine lv_istore_n (lv' := [(2, .int r_8), (0, .ref pl), (1, .int p1)]) hx hb dX4_settle_11 rfl hl (by decide) rfl (fun ls hl => ?_)
  refine lv_iload_n hx hb dX4_settle_12 rfl (lv_at hl 0 rfl) ?_
  refine lv_iconst (v := (-1)) hx hb dX4_settle_13 (by decide) ?_
  refine lv_icmp_eq (tgt := 27) hx hb dX4_settle_14 (by decide) (fun c_14 => ?_) (fun c_14 => ?_)
  · have d_14 := c_14
    simp only [kt_lt, kt_le, kt_eq, kt_c0, kt_c1, kt_c2, kt_c3, kt_c4, kt_c8, kt_c9, kt_cm1, kt_c81, kt_c40, kt_c7, kt_c5, kt_c6, kt_c512, kt_c10, kt_c10000] at d_14
    refine lv_aload_n hx hb dX4_settle_27 rfl (lv_at hl 1 rfl) ?_
    refine lv_iload_n hx hb dX4_settle_28 rfl (lv_at hl 2 rfl) ?_
    refine lv_if_eq (tgt := 46) hx hb dX4_settle_29 (by decide) (fun c_29 => ?_) (fun c_29 => ?_)
    · have d_29 := c_29
      simp only [kt_lt, kt_le, kt_eq, kt_c0, kt_c1, kt_c2, kt_c3, kt_c4, kt_c8, kt_c9, kt_cm1, kt_c81, kt_c40, kt_c7, kt_c5, kt_c6, kt_c512, kt_c10, kt_c10000] at d_29
      refine lv_iconst (v := 1) hx hb dX4_settle_46 (by decide) ?_
      refine va_put (D := D) (ci := 4) (v := .int 1) (ty := .int) (C := RX4) (T := TX4) (N := 5) hx hb hts iw_X4_settle_X4 tyX4 tyX4_ok nmX4 hown hK hP hD hS 0 rfl rfl 4 (by decide) (hts (.fieldLink RX4 25 "KingTable$Play" "state" "I") (kt_wp_X4_settle__X4_settle_r1 kt_wm2)) (fun _ h9 => h9) rfl (by decide +kernel) rfl rfl (Nat.le_of_ble_eq_true rfl) dX4_settle_47 (fun H locs hP hD hS => ?_)
      have hP : va_P D vwCl [(pl, .inr (4, [.ref la, .ref ru, .ref nw, .ref lo, .int 1])), (ru, .inr (6, [.ref la, .ref gr, .ref rk, .ref rs, .ref rt, .int tt, .int kg, .ref rv, .int vc])), (la, .inr (1, [.int lg, .int lh, .int lt, .int lr, .int lc])), (gr, .inr (0, [.ref gt, .ref gg, .ref gn, .int gs, .int gm])), (gt, .inl (cI, 81, .inl tg)), (gn, .inl (cI, 324, .inl nb)), (nw, .inr (8, [.ref sf, .ref sh, .int tu])), (sf, .inl (cI, 40, .inl ff)), (sh, .inl (cI, 81, .inl fh)), (rs, .inl (cI, 40, .inl fs)), (gg, .inl (cZ, 81, .inl gl))] H := hP
      have hD : va_D A [(pl, .inr (4, [.ref la, .ref ru, .ref nw, .ref lo, .int 1])), (ru, .inr (6, [.ref la, .ref gr, .ref rk, .ref rs, .ref rt, .int tt, .int kg, .ref rv, .int vc])), (la, .inr (1, [.int lg, .int lh, .int lt, .int lr, .int lc])), (gr, .inr (0, [.ref gt, .ref gg, .ref gn, .int gs, .int gm])), (gt, .inl (cI, 81, .inl tg)), (gn, .inl (cI, 324, .inl nb)), (nw, .inr (8, [.ref sf, .ref sh, .int tu])), (sf, .inl (cI, 40, .inl ff)), (sh, .inl (cI, 81, .inl fh)), (rs, .inl (cI, 40, .inl fs)), (gg, .inl (cZ, 81, .inl gl))] := hD
      exact kt_rv 1 hx hb hr hlk hS dX4_settle_50 hP hD (by show kt_HW (ff kg.toNatClampNeg = -1) (kt_goR lg w_ L_ (fr (ff kg.toNatClampNeg).toNatClampNeg) (ff kg.toNatClampNeg).toInt) (kt_can P_ fh fr fk ff lr.toInt w_ L_ tu.toInt) (¬ p1 = 0 ∧ lc = 0) tu.toInt (1 : Int32).toInt ∧ 1 ≤ (1 : Int32).toInt ∧ (1 : Int32).toInt ≤ 4; rcases hwn with ⟨a, b⟩ | ⟨a, c, b⟩ | ⟨a, c, d, b⟩ | ⟨a, c, d, b⟩ <;> first
          | (exfalso; omega)
          | exact ⟨Or.inl ⟨a, by omega⟩, by omega⟩
          | exact ⟨Or.inr (Or.inl ⟨a, c, by omega⟩), by omega⟩
          | exact ⟨Or.inr (Or.inr (Or.inl ⟨a, c, d, by omega⟩)), by omega⟩
          | exact ⟨Or.inr (Or.inr (Or.inr (Or.inl ⟨a, c, d, ⟨c_29, c_39⟩, by decide⟩))), by decide⟩
          | exact ⟨Or.inr (Or.inr (Or.inr (Or.inr ⟨a, c, d, fun h => h.1 c_29, by decide⟩))), by decide⟩
          | exact ⟨Or.inr (Or.inr (Or.inr (Or.inr ⟨a, c, d, fun h => c_39 h.2, by decide⟩))), by decide⟩)
    · have d_29 := c_29
      simp only [kt_lt, kt_le, kt_eq, kt_c0, kt_c1, kt_c2, kt_c3, kt_c4, kt_c8, kt_c9, kt_cm1, kt_c81, kt_c40, kt_c7, kt_c5, kt_c6, kt_c512, kt_c10, kt_c10000] at d_29
      refine lv_aload_n hx hb dX4_settle_32 rfl (lv_at hl 1 rfl) ?_
      refine va_get (D := D) (ci := 4) (C := RX4) (T := TX4) (N := 5) hx hb hts iw_X4_settle_X4 hown hK hP 0 rfl rfl 0 (by decide) (hts (.fieldLink RX4 29 "KingTable$Play" "laws" "LKingTable$Laws;") (kt_wp_X4_settle__X4_settle_r1 kt_wm3)) (fun _ h9 => h9) rfl dX4_settle_33 ?_
      refine va_getN (D := D) (ci := 1) (C := RX1) (T := TX1) (N := 5) hx hb hts iw_X4_settle_X1 hown hK hP 2 rfl rfl 4 (by decide) (va_Nw.use (w := .fieldLinkNest RX4 100 "KingTable$Laws" "comeback" "I" "KingTable") rfl (hN _ (by decide +kernel))) (fun _ h9 => h9) rfl dX4_settle_36 ?_
      refine lv_if_ne (tgt := 46) hx hb dX4_settle_39 (by decide) (fun c_39 => ?_) (fun c_39 => ?_)
      · have d_39 := c_39
        simp only [kt_lt, kt_le, kt_eq, kt_c0, kt_c1, kt_c2, kt_c3, kt_c4, kt_c8, kt_c9, kt_cm1, kt_c81, kt_c40, kt_c7, kt_c5, kt_c6, kt_c512, kt_c10, kt_c10000] at d_39
        refine lv_iconst (v := 1) hx hb dX4_settle_46 (by decide) ?_
        refine va_put (D := D) (ci := 4) (v := .int 1) (ty := .int) (C := RX4) (T := TX4) (N := 5) hx hb hts iw_X4_settle_X4 tyX4 tyX4_ok nmX4 hown hK hP hD hS 0 rfl rfl 4 (by decide) (hts (.fieldLink RX4 25 "KingTable$Play" "state" "I") (kt_wp_X4_settle__X4_settle_r1 kt_wm2)) (fun _ h9 => h9) rfl (by decide +kernel) rfl rfl (Nat.le_of_ble_eq_true rfl) dX4_settle_47 (fun H locs hP hD hS => ?_)
        have hP : va_P D vwCl [(pl, .inr (4, [.ref la, .ref ru, .ref nw, .ref lo, .int 1])), (ru, .inr (6, [.ref la, .ref gr, .ref rk, .ref rs, .ref rt, .int tt, .int kg, .ref rv, .int vc])), (la, .inr (1, [.int lg, .int lh, .int lt, .int lr, .int lc])), (gr, .inr (0, [.ref gt, .ref gg, .ref gn, .int gs, .int gm])), (gt, .inl (cI, 81, .inl tg)), (gn, .inl (cI, 324, .inl nb)), (nw, .inr (8, [.ref sf, .ref sh, .int tu])), (sf, .inl (cI, 40, .inl ff)), (sh, .inl (cI, 81, .inl fh)), (rs, .inl (cI, 40, .inl fs)), (gg, .inl (cZ, 81, .inl gl))] H := hP
        have hD : va_D A [(pl, .inr (4, [.ref la, .ref ru, .ref nw, .ref lo, .int 1])), (ru, .inr (6, [.ref la, .ref gr, .ref rk, .ref rs, .ref rt, .int tt, .int kg, .ref rv, .int vc])), (la, .inr (1, [.int lg, .int lh, .int lt, .int lr, .int lc])), (gr, .inr (0, [.ref gt, .ref gg, .ref gn, .int gs, .int gm])), (gt, .inl (cI, 81, .inl tg)), (gn, .inl (cI, 324, .inl nb)), (nw, .inr (8, [.ref sf, .ref sh, .int tu])), (sf, .inl (cI, 40, .inl ff)), (sh, .inl (cI, 81, .inl fh)), (rs, .inl (cI, 40, .inl fs)), (gg, .inl (cZ, 81, .inl gl))] := hD
        exact kt_rv 1 hx hb hr hlk hS dX4_settle_50 hP hD (by show kt_HW (ff kg.toNatClampNeg = -1) (kt_goR lg w_ L_ (fr (ff kg.toNatClampNeg).toNatClampNeg) (ff kg.toNatClampNeg).toInt) (kt_can P_ fh fr fk ff lr.toInt w_ L_ tu.toInt) (¬ p1 = 0 ∧ lc = 0) tu.toInt (1 : Int32).toInt ∧ 1 ≤ (1 : Int32).toInt ∧ (1 : Int32).toInt ≤ 4; rcases hwn with ⟨a, b⟩ | ⟨a, c, b⟩ | ⟨a, c, d, b⟩ | ⟨a, c, d, b⟩ <;> first
            | (exfalso; omega)
            | exact ⟨Or.inl ⟨a, by omega⟩, by omega⟩
            | exact ⟨Or.inr (Or.inl ⟨a, c, by omega⟩), by omega⟩
            | exact ⟨Or.inr (Or.inr (Or.inl ⟨a, c, d, by omega⟩)), by omega⟩
            | exact ⟨Or.inr (Or.inr (Or.inr (Or.inl ⟨a, c, d, ⟨c_29, c_39⟩, by decide⟩))), by decide⟩
            | exact ⟨Or.inr (Or.inr (Or.inr (Or.inr ⟨a, c, d, fun h => h.1 c_29, by decide⟩))), by decide⟩
            | exact ⟨Or.inr (Or.inr (Or.inr (Or.inr ⟨a, c, d, fun h => c_39 h.2, by decide⟩))), by decide⟩)
      · have d_39 := c_39
        simp only [kt_lt, kt_le, kt_eq, kt_c0, kt_c1, kt_c2, kt_c3, kt_c4, kt_c8, kt_c9, kt_cm1, kt_c81, kt_c40, kt_c7, kt_c5, kt_c6, kt_c512, kt_c10, kt_c10000] at d_39
        refine lv_iconst (v := 4) hx hb dX4_settle_42 (by decide) ?_
        refine lv_goto (tgt := 47) hx hb dX4_settle_43 (by decide) ?_
        refine va_put (D := D) (ci := 4) (v := .int 4) (ty := .int) (C := RX4) (T := TX4) (N := 5) hx hb hts iw_X4_settle_X4 tyX4 tyX4_ok nmX4 hown hK hP hD hS 0 rfl rfl 4 (by decide) (hts (.fieldLink RX4 25 "KingTable$Play" "state" "I") (kt_wp_X4_settle__X4_settle_r1 kt_wm2)) (fun _ h9 => h9) rfl (by decide +kernel) rfl rfl (Nat.le_of_ble_eq_true rfl) dX4_settle_47 (fun H locs hP hD hS => ?_)
        have hP : va_P D vwCl [(pl, .inr (4, [.ref la, .ref ru, .ref nw, .ref lo, .int 4])), (ru, .inr (6, [.ref la, .ref gr, .ref rk, .ref rs, .ref rt, .int tt, .int kg, .ref rv, .int vc])), (la, .inr (1, [.int lg, .int lh, .int lt, .int lr, .int lc])), (gr, .inr (0, [.ref gt, .ref gg, .ref gn, .int gs, .int gm])), (gt, .inl (cI, 81, .inl tg)), (gn, .inl (cI, 324, .inl nb)), (nw, .inr (8, [.ref sf, .ref sh, .int tu])), (sf, .inl (cI, 40, .inl ff)), (sh, .inl (cI, 81, .inl fh)), (rs, .inl (cI, 40, .inl fs)), (gg, .inl (cZ, 81, .inl gl))] H := hP
        have hD : va_D A [(pl, .inr (4, [.ref la, .ref ru, .ref nw, .ref lo, .int 4])), (ru, .inr (6, [.ref la, .ref gr, .ref rk, .ref rs, .ref rt, .int tt, .int kg, .ref rv, .int vc])), (la, .inr (1, [.int lg, .int lh, .int lt, .int lr, .int lc])), (gr, .inr (0, [.ref gt, .ref gg, .ref gn, .int gs, .int gm])), (gt, .inl (cI, 81, .inl tg)), (gn, .inl (cI, 324, .inl nb)), (nw, .inr (8, [.ref sf, .ref sh, .int tu])), (sf, .inl (cI, 40, .inl ff)), (sh, .inl (cI, 81, .inl fh)), (rs, .inl (cI, 40, .inl fs)), (gg, .inl (cZ, 81, .inl gl))] := hD
        exact kt_rv 4 hx hb hr hlk hS dX4_settle_50 hP hD (by show kt_HW (ff kg.toNatClampNeg = -1) (kt_goR lg w_ L_ (fr (ff kg.toNatClampNeg).toNatClampNeg) (ff kg.toNatClampNeg).toInt) (kt_can P_ fh fr fk ff lr.toInt w_ L_ tu.toInt) (¬ p1 = 0 ∧ lc = 0) tu.toInt (4 : Int32).toInt ∧ 1 ≤ (4 : Int32).toInt ∧ (4 : Int32).toInt ≤ 4; rcases hwn with ⟨a, b⟩ | ⟨a, c, b⟩ | ⟨a, c, d, b⟩ | ⟨a, c, d, b⟩ <;> first
            | (exfalso; omega)
            | exact ⟨Or.inl ⟨a, by omega⟩, by omega⟩
            | exact ⟨Or.inr (Or.inl ⟨a, c, by omega⟩), by omega⟩
            | exact ⟨Or.inr (Or.inr (Or.inl ⟨a, c, d, by omega⟩)), by omega⟩
            | exact ⟨Or.inr (Or.inr (Or.inr (Or.inl ⟨a, c, d, ⟨c_29, c_39⟩, by decide⟩))), by decide⟩
            | exact ⟨Or.inr (Or.inr (Or.inr (Or.inr ⟨a, c, d, fun h => h.1 c_29, by decide⟩))), by decide⟩
            | exact ⟨Or.inr (Or.inr (Or.inr (Or.inr ⟨a, c, d, fun h => c_39 h.2, by decide⟩))), by decide⟩)
  · have d_14 := c_14
    simp only [kt_lt, kt_le, kt_eq, kt_c0, kt_c1, kt_c2, kt_c3, kt_c4, kt_c8, kt_c9, kt_cm1, kt_c81, kt_c40, kt_c7, kt_c5, kt_c6, kt_c512, kt_c10, kt_c10000] at d_14
    refine lv_aload_n hx hb dX4_settle_17 rfl (lv_at hl 1 rfl) ?_
    refine lv_iconst (v := 2) hx hb dX4_settle_18 (by decide) ?_
    refine lv_iload_n hx hb dX4_settle_19 rfl (lv_at hl 0 rfl) ?_
    refine lv_iadd hx hb dX4_settle_20 ?_
    refine lv_topi (fun t_20 et_20 => ?_)
    first | have hk_20 := kt_addx et_20 (by first | omega | (simp only [kt_c0, kt_c1, kt_c2, kt_c3, kt_c4, kt_c8, kt_c9, kt_cm1, kt_c81, kt_c40, kt_c7, kt_c5, kt_c6, kt_c512, kt_c10, kt_c10000]; omega)) (by first | omega | (simp only [kt_c0, kt_c1, kt_c2, kt_c3, kt_c4, kt_c8, kt_c9, kt_cm1, kt_c81, kt_c40, kt_c7, kt_c5, kt_c6, kt_c512, kt_c10, kt_c10000]; omega)) | obtain ⟨k_20, hk_20, hm_20, hM_20⟩ := kt_addk et_20
    try simp only [kt_c0, kt_c1, kt_c2, kt_c3, kt_c4, kt_c8, kt_c9, kt_cm1, kt_c81, kt_c40, kt_c7, kt_c5, kt_c6, kt_c512, kt_c10, kt_c10000] at hk_20
    refine va_put (D := D) (ci := 4) (v := .int t_20) (ty := .int) (C := RX4) (T := TX4) (N := 5) hx hb hts iw_X4_settle_X4 tyX4 tyX4_ok nmX4 hown hK hP hD hS 0 rfl rfl 4 (by decide) (hts (.fieldLink RX4 25 "KingTable$Play" "state" "I") (kt_wp_X4_settle__X4_settle_r1 kt_wm2)) (fun _ h9 => h9) rfl (by decide +kernel) rfl rfl (Nat.le_of_ble_eq_true rfl) dX4_settle_21 (fun H locs hP hD hS => ?_)
    have hP : va_P D vwCl [(pl, .inr (4, [.ref la, .ref ru, .ref nw, .ref lo, .int t_20])), (ru, .inr (6, [.ref la, .ref gr, .ref rk, .ref rs, .ref rt, .int tt, .int kg, .ref rv, .int vc])), (la, .inr (1, [.int lg, .int lh, .int lt, .int lr, .int lc])), (gr, .inr (0, [.ref gt, .ref gg, .ref gn, .int gs, .int gm])), (gt, .inl (cI, 81, .inl tg)), (gn, .inl (cI, 324, .inl nb)), (nw, .inr (8, [.ref sf, .ref sh, .int tu])), (sf, .inl (cI, 40, .inl ff)), (sh, .inl (cI, 81, .inl fh)), (rs, .inl (cI, 40, .inl fs)), (gg, .inl (cZ, 81, .inl gl))] H := hP
    have hD : va_D A [(pl, .inr (4, [.ref la, .ref ru, .ref nw, .ref lo, .int t_20])), (ru, .inr (6, [.ref la, .ref gr, .ref rk, .ref rs, .ref rt, .int tt, .int kg, .ref rv, .int vc])), (la, .inr (1, [.int lg, .int lh, .int lt, .int lr, .int lc])), (gr, .inr (0, [.ref gt, .ref gg, .ref gn, .int gs, .int gm])), (gt, .inl (cI, 81, .inl tg)), (gn, .inl (cI, 324, .inl nb)), (nw, .inr (8, [.ref sf, .ref sh, .int tu])), (sf, .inl (cI, 40, .inl ff)), (sh, .inl (cI, 81, .inl fh)), (rs, .inl (cI, 40, .inl fs)), (gg, .inl (cZ, 81, .inl gl))] := hD
    refine lv_goto (tgt := 50) hx hb dX4_settle_24 (by decide) ?_
    exact kt_rv t_20 hx hb hr hlk hS dX4_settle_50 hP hD (by show kt_HW (ff kg.toNatClampNeg = -1) (kt_goR lg w_ L_ (fr (ff kg.toNatClampNeg).toNatClampNeg) (ff kg.toNatClampNeg).toInt) (kt_can P_ fh fr fk ff lr.toInt w_ L_ tu.toInt) (¬ p1 = 0 ∧ lc = 0) tu.toInt t_20.toInt ∧ 1 ≤ t_20.toInt ∧ t_20.toInt ≤ 4; rcases hwn with ⟨a, b⟩ | ⟨a, c, b⟩ | ⟨a, c, d, b⟩ | ⟨a, c, d, b⟩ <;> first
        | (exfalso; omega)
        | exact ⟨Or.inl ⟨a, by omega⟩, by omega⟩
        | exact ⟨Or.inr (Or.inl ⟨a, c, by omega⟩), by omega⟩
        | exact ⟨Or.inr (Or.inr (Or.inl ⟨a, c, d, by omega⟩)), by omega⟩
        | exact ⟨Or.inr (Or.inr (Or.inr (Or.inl ⟨a, c, d, ⟨c_29, c_39⟩, by decide⟩))), by decide⟩
        | exact ⟨Or.inr (Or.inr (Or.inr (Or.inr ⟨a, c, d, fun h => h.1 c_29, by decide⟩))), by decide⟩
        | exact ⟨Or.inr (Or.inr (Or.inr (Or.inr ⟨a, c, d, fun h => c_39 h.2, by decide⟩))), by decide⟩)

set_option maxHeartbeats 4000000 in
set_option maxRecDepth 100000 in
theorem c_X4_barrierE (l : Launch) (D : va_G) (cI cZ cB : ClassId) (sz : Nat) (pl : Nat) (st : Int32) (ru : Nat) (la : Nat) (gr : Nat) (rk : Nat) (rs : Nat) (rt : Nat) (rv : Nat) (tt : Int32) (kg : Int32) (vc : Int32) (lg : Int32) (lh : Int32) (lt : Int32) (lr : Int32) (lc : Int32) (gt : Nat) (gg : Nat) (gn : Nat) (gs : Int32) (gm : Int32) (tg : Nat → Int32) (nb : Nat → Int32) (nw : Nat) (sf : Nat) (sh : Nat) (tu : Int32) (ff : Nat → Int32) (fh : Nat → Int32) (lo : Nat) (w_ : Int) (L_ : Int) (P_ : Nat) (gl : Nat → Int32) (fk : Nat → Int32) (fs : Nat → Int32) (ft : Nat → Int32) (fr : Nat → Int32) (ck : Nat → Int32) (n_ : Nat) (p1 : Int32) (p2 : Int32) (p3 : Int32) (hgs : 0 ≤ gs.toInt ∧ gs.toInt ≤ 81) (hgt : kt_r tg 81 0 2) (hnb : kt_r nb 324 (-1) 80) (hff : kt_r ff 40 (-1) 80) (hfh : kt_r fh 81 (-1) 39) (hlr : 0 ≤ lr.toInt ∧ lr.toInt ≤ 8) (hrx : kt_RX w_ L_ P_ tt kg gs lg lt tg gl nb fk fs ft fr ck) (hfp : kt_r ff P_ (-1) (L_ * w_ - 1)) (hp1 : 0 ≤ p1.toInt ∧ p1.toInt < (P_ : Int)) (hp2 : 0 ≤ p2.toInt ∧ p2.toInt < 4) (hxo : 0 ≤ (ff p1.toNatClampNeg).toInt) (hto : p3.toInt = kt_al (ff p1.toNatClampNeg).toInt w_ L_ p2.toInt (n_ : Int) ∧ (n_ : Int) ≤ kt_rom (ff p1.toNatClampNeg).toInt w_ L_ p2.toInt ∧ 1 ≤ n_) : kt_Mi l yX4_barrier wsX4_barrier { frames := 1, cells := 0, slots := 0, locals := 23 } D (kt_ty cI cZ cB) [.ref pl, .int p1, .int p2, .int p3] sz [(pl, .inr (4, [.ref la, .ref ru, .ref nw, .ref lo, .int st])), (ru, .inr (6, [.ref la, .ref gr, .ref rk, .ref rs, .ref rt, .int tt, .int kg, .ref rv, .int vc])), (la, .inr (1, [.int lg, .int lh, .int lt, .int lr, .int lc])), (gr, .inr (0, [.ref gt, .ref gg, .ref gn, .int gs, .int gm])), (gt, .inl (cI, 81, .inl tg)), (gn, .inl (cI, 324, .inl nb)), (nw, .inr (8, [.ref sf, .ref sh, .int tu])), (sf, .inl (cI, 40, .inl ff)), (sh, .inl (cI, 81, .inl fh))] (fun (r : Int32) (u : Unit) => r.toInt = kt_pth fh fr (fk p1.toNatClampNeg) (ff p1.toNatClampNeg).toInt w_ L_ p2.toInt n_) (fun (u : Unit) => [(pl, .inr (4, [.ref la, .ref ru, .ref nw, .ref lo, .int st])), (ru, .inr (6, [.ref la, .ref gr, .ref rk, .ref rs, .ref rt, .int tt, .int kg, .ref rv, .int vc])), (la, .inr (1, [.int lg, .int lh, .int lt, .int lr, .int lc])), (gr, .inr (0, [.ref gt, .ref gg, .ref gn, .int gs, .int gm])), (gt, .inl (cI, 81, .inl tg)), (gn, .inl (cI, 324, .inl nb)), (nw, .inr (8, [.ref sf, .ref sh, .int tu])), (sf, .inl (cI, 40, .inl ff)), (sh, .inl (cI, 81, .inl fh))]) 0 0 := by
  refine kt_Mi.of (cc := cX4_barrier) (maxL := 6) (ret := some .int) (by decide) rfl (Nat.le_of_ble_eq_true rfl) ?_
  intro p e s m below meth c A ls H hAt hP hD hS hl
  obtain ⟨hx, hb, hr, hml, hown, hts, hN, hK, hlk, hnm, hA⟩ := hAt
  have hl : lv_has ls 6 [(0, .ref pl), (1, .int p1), (2, .int p2), (3, .int p3)] := hl
  have hown : s.vm.findClass RX4 = some m.cls := hown
  obtain ⟨hgx, hnx, htf, ⟨htP, hP40⟩, hsd_, hkq, hck, hkr⟩ := hrx
  have hgx1 := hgx.1
  have hw_ := hgx.2.1
  have hL_ := hgx.2.2
  have httP : tt.toInt = (P_ : Int) := by rw [htP, kt_nI (by omega)]
  have hkk := hkq p1.toInt.toNat (by omega)
  rw [← kt_nIof (x := p1) (by omega)] at hkk
  have hX := hfp.get (kt_in (x := p1) (n := P_) (by omega) (by omega))
  have hX2 : 0 ≤ (ff p1.toNatClampNeg).toInt ∧ (ff p1.toNatClampNeg).toInt < L_ * w_ := by omega
  have hrb := kt_rom_b (a := p2.toInt) hw_ hL_ hX2
  refine lv_aload_n hx hb dX4_barrier_0 rfl (lv_at hl 0 rfl) ?_
  refine va_get (D := D) (ci := 4) (C := RX4) (T := TX4) (N := 5) hx hb hts iw_X4_barrier_X4 hown hK hP 0 rfl rfl 2 (by decide) (hts (.fieldLink RX4 12 "KingTable$Play" "now" "LKingTable$Stand;") (kt_wp_X4_barrier__X4_barrier_r1 kt_wm0)) (fun _ h9 => h9) rfl dX4_barrier_1 ?_
  refine lv_iload_n hx hb dX4_barrier_4 rfl (lv_at hl 1 rfl) ?_
  refine kt_pi (wc := [(nw, .inr (8, [.ref sf, .ref sh, .int tu])), (sf, .inl (cI, 40, .inl ff))]) [6, 7] hP hD hS hA rfl (by decide) (fun hPc hDc => va_runV (As := [.int p1]) (rest := []) ⟨hx, hb, hml, hown, hts⟩ (c_X8_fieldOfE l D cI cZ cB H.size nw sf sh tu ff p1 hff) (cwV 1 hts gX4_barrier_X8_fieldOf rfl rfl rfl (by decide +kernel) ⟨Nat.le_of_ble_eq_true rfl, Nat.le_of_ble_eq_true rfl⟩) (kt_preV hN hK hPc hDc 0 (ci := 8) (q := (RX8, TX8, 3)) rfl rfl) rfl rfl hl.1 rfl (lv_room (Nat.le_of_ble_eq_true rfl)) dX4_barrier_5 ⟨Nat.le_of_ble_eq_true rfl, Nat.le_of_ble_eq_true rfl⟩) (fun r_5 _ H locs hw_5 hP hS => ?_)
  have e5 := hw_5.1 (by omega)
  refine lv_istore (lv' := [(4, .int r_5), (0, .ref pl), (1, .int p1), (2, .int p2), (3, .int p3)]) hx hb dX4_barrier_8 hl (by decide) rfl (fun ls hl => ?_)
  refine lv_iconst (v := 1) hx hb dX4_barrier_10 (by decide) ?_
  refine lv_istore (lv' := [(5, .int 1), (4, .int r_5), (0, .ref pl), (1, .int p1), (2, .int p2), (3, .int p3)]) hx hb dX4_barrier_11 hl (by decide) rfl (fun ls hl => ?_)
  refine kt_loop (σ := Nat × Int32) 13 6 (fun u => [(pl, .inr (4, [.ref la, .ref ru, .ref nw, .ref lo, .int st])), (ru, .inr (6, [.ref la, .ref gr, .ref rk, .ref rs, .ref rt, .int tt, .int kg, .ref rv, .int vc])), (la, .inr (1, [.int lg, .int lh, .int lt, .int lr, .int lc])), (gr, .inr (0, [.ref gt, .ref gg, .ref gn, .int gs, .int gm])), (gt, .inl (cI, 81, .inl tg)), (gn, .inl (cI, 324, .inl nb)), (nw, .inr (8, [.ref sf, .ref sh, .int tu])), (sf, .inl (cI, 40, .inl ff)), (sh, .inl (cI, 81, .inl fh))]) (fun u => [(5, .int (nI u.1)), (4, .int u.2), (0, .ref pl), (1, .int p1), (2, .int p2), (3, .int p3)]) (fun n u => (1 ≤ u.1 ∧ u.1 ≤ 9 ∧ 9 < u.1 + n ∧ u.1 ≤ n_ + 1) ∧ (-1 ≤ u.2.toInt ∧ u.2.toInt ≤ 80) ∧ u.2.toInt = kt_al (ff p1.toNatClampNeg).toInt w_ L_ p2.toInt ((u.1 : Int) - 1) ∧ kt_pth fh fr (fk p1.toNatClampNeg) (ff p1.toNatClampNeg).toInt w_ L_ p2.toInt (u.1 - 1) = 0) (fun u h => by omega) (fun n_13 ih_13 u hI H locs hP hD hS ls hl => ?_) (9) (1, r_5) (by show (1 ≤ 1 ∧ 1 ≤ 9 ∧ 9 < 1 + 9 ∧ 1 ≤ n_ + 1) ∧ (-1 ≤ r_5.toInt ∧ r_5.toInt ≤ 80) ∧ r_5.toInt = kt_al (ff p1.toNatClampNeg).toInt w_ L_ p2.toInt ((1 : Int) - 1) ∧ kt_pth fh fr (fk p1.toNatClampNeg) (ff p1.toNatClampNeg).toInt w_ L_ p2.toInt (1 - 1) = 0; exact ⟨⟨by decide, by decide, by decide, by omega⟩, by omega, by rw [e5]; exact (kt_al_0 hw_ hL_ hX2).symm, rfl⟩) hP hD hS (lv_sub hl [0, 1, 2, 3, 4, 5] rfl)
  obtain ⟨k, f⟩ := u
  have hP : va_P D vwCl [(pl, .inr (4, [.ref la, .ref ru, .ref nw, .ref lo, .int st])), (ru, .inr (6, [.ref la, .ref gr, .ref rk, .ref rs, .ref rt, .int tt, .int kg, .ref rv, .int vc])), (la, .inr (1, [.int lg, .int lh, .int lt, .int lr, .int lc])), (gr, .inr (0, [.ref gt, .ref gg, .ref gn, .int gs, .int gm])), (gt, .inl (cI, 81, .inl tg)), (gn, .inl (cI, 324, .inl nb)), (nw, .inr (8, [.ref sf, .ref sh, .int tu])), (sf, .inl (cI, 40, .inl ff)), (sh, .inl (cI, 81, .inl fh))] H := hP
  have hD : va_D A [(pl, .inr (4, [.ref la, .ref ru, .ref nw, .ref lo, .int st])), (ru, .inr (6, [.ref la, .ref gr, .ref rk, .ref rs, .ref rt, .int tt, .int kg, .ref rv, .int vc])), (la, .inr (1, [.int lg, .int lh, .int lt, .int lr, .int lc])), (gr, .inr (0, [.ref gt, .ref gg, .ref gn, .int gs, .int gm])), (gt, .inl (cI, 81, .inl tg)), (gn, .inl (cI, 324, .inl nb)), (nw, .inr (8, [.ref sf, .ref sh, .int tu])), (sf, .inl (cI, 40, .inl ff)), (sh, .inl (cI, 81, .inl fh))] := hD
  have hl : lv_has ls 6 [(5, .int (nI k)), (4, .int f), (0, .ref pl), (1, .int p1), (2, .int p2), (3, .int p3)] := hl
  have hI : (1 ≤ k ∧ k ≤ 9 ∧ 9 < k + (n_13 + 1) ∧ k ≤ n_ + 1) ∧ (-1 ≤ f.toInt ∧ f.toInt ≤ 80) ∧ f.toInt = kt_al (ff p1.toNatClampNeg).toInt w_ L_ p2.toInt ((k : Int) - 1) ∧ kt_pth fh fr (fk p1.toNatClampNeg) (ff p1.toNatClampNeg).toInt w_ L_ p2.toInt (k - 1) = 0 := hI
  obtain ⟨hkb, hfr_, hf, hp0⟩ := hI
  have hk0 := kt_nI (n := k) (by omega)
  refine lv_iload hx hb dX4_barrier_13 (lv_at hl 0 rfl) ?_
  refine lv_bipush (v := 9) hx hb dX4_barrier_15 (by decide) ?_
  refine lv_icmp_ge (tgt := 79) hx hb dX4_barrier_17 (by decide) (fun c_17 => ?_) (fun c_17 => ?_)
  · have d_17 := c_17
    simp only [kt_lt, kt_le, kt_eq, kt_c0, kt_c1, kt_c2, kt_c3, kt_c4, kt_c8, kt_c9, kt_cm1, kt_c81, kt_c40, kt_c7, kt_c5, kt_c6, kt_c512, kt_c10, kt_c10000] at d_17
    have hkn : k - 1 = n_ := by first | (have h5 : (k : Int) - 1 = (n_ : Int) := kt_al_ninj hw_ (by omega) hto.2.1 (by rw [← hf, ← hto.1, c_23])); omega | omega
    rw [hkn] at hp0
    refine lv_iconst (v := 0) hx hb dX4_barrier_79 (by decide) ?_
    exact kt_ri () hx hb hr hlk hS dX4_barrier_80 hP hD (by show (0 : Int32).toInt = kt_pth fh fr (fk p1.toNatClampNeg) (ff p1.toNatClampNeg).toInt w_ L_ p2.toInt n_; first | (rw [hpn, hpk]; decide) | (rw [hp0]; decide))
  · have d_17 := c_17
    simp only [kt_lt, kt_le, kt_eq, kt_c0, kt_c1, kt_c2, kt_c3, kt_c4, kt_c8, kt_c9, kt_cm1, kt_c81, kt_c40, kt_c7, kt_c5, kt_c6, kt_c512, kt_c10, kt_c10000] at d_17
    refine lv_iload hx hb dX4_barrier_20 (lv_at hl 1 rfl) ?_
    refine lv_iload_n hx hb dX4_barrier_22 rfl (lv_at hl 5 rfl) ?_
    refine lv_icmp_eq (tgt := 79) hx hb dX4_barrier_23 (by decide) (fun c_23 => ?_) (fun c_23 => ?_)
    · have d_23 := c_23
      simp only [kt_lt, kt_le, kt_eq, kt_c0, kt_c1, kt_c2, kt_c3, kt_c4, kt_c8, kt_c9, kt_cm1, kt_c81, kt_c40, kt_c7, kt_c5, kt_c6, kt_c512, kt_c10, kt_c10000] at d_23
      have hkn : k - 1 = n_ := by first | (have h5 : (k : Int) - 1 = (n_ : Int) := kt_al_ninj hw_ (by omega) hto.2.1 (by rw [← hf, ← hto.1, c_23])); omega | omega
      rw [hkn] at hp0
      refine lv_iconst (v := 0) hx hb dX4_barrier_79 (by decide) ?_
      exact kt_ri () hx hb hr hlk hS dX4_barrier_80 hP hD (by show (0 : Int32).toInt = kt_pth fh fr (fk p1.toNatClampNeg) (ff p1.toNatClampNeg).toInt w_ L_ p2.toInt n_; first | (rw [hpn, hpk]; decide) | (rw [hp0]; decide))
    · have d_23 := c_23
      simp only [kt_lt, kt_le, kt_eq, kt_c0, kt_c1, kt_c2, kt_c3, kt_c4, kt_c8, kt_c9, kt_cm1, kt_c81, kt_c40, kt_c7, kt_c5, kt_c6, kt_c512, kt_c10, kt_c10000] at d_23
      have hkn : k ≤ n_ := by
        rcases Nat.lt_or_ge n_ k with h | h
        · exfalso
          apply c_23
          refine (kt_eq _ _).mpr ?_
          rw [hf, hto.1, show (k : Int) - 1 = (n_ : Int) by omega]
        · exact h
      refine lv_aload_n hx hb dX4_barrier_26 rfl (lv_at hl 2 rfl) ?_
      refine va_get (D := D) (ci := 4) (C := RX4) (T := TX4) (N := 5) hx hb hts iw_X4_barrier_X4 hown hK hP 0 rfl rfl 1 (by decide) (hts (.fieldLink RX4 33 "KingTable$Play" "rules" "LKingTable$Rules;") (kt_wp_X4_barrier__X4_barrier_r1 kt_wm1)) (fun _ h9 => h9) rfl dX4_barrier_27 ?_
      refine va_getN (D := D) (ci := 6) (C := RX6) (T := TX6) (N := 9) hx hb hts iw_X4_barrier_X6 hown hK hP 1 rfl rfl 1 (by decide) (va_Nw.use (w := .fieldLinkNest RX4 40 "KingTable$Rules" "ground" "LKingTable$Ground;" "KingTable") rfl (hN _ (by decide +kernel))) (fun _ h9 => h9) rfl dX4_barrier_30 ?_
      refine lv_iload hx hb dX4_barrier_33 (lv_at hl 1 rfl) ?_
      refine lv_iload_n hx hb dX4_barrier_35 rfl (lv_at hl 4 rfl) ?_
      refine kt_pi (wc := [(gr, .inr (0, [.ref gt, .ref gg, .ref gn, .int gs, .int gm])), (gn, .inl (cI, 324, .inl nb))]) [3, 5] hP hD hS hA rfl (by decide) (fun hPc hDc => va_runV (As := [.int f, .int p2]) (rest := []) ⟨hx, hb, hml, hown, hts⟩ (c_X0_besideE l D cI cZ cB H.size gr gt gg gn gs gm nb w_ L_ f p2 hgs hnb hgx hnx) (cwV 2 hts gX4_barrier_X0_beside rfl rfl rfl (by decide +kernel) ⟨Nat.le_of_ble_eq_true rfl, Nat.le_of_ble_eq_true rfl⟩) (kt_preV hN hK hPc hDc 0 (ci := 0) (q := (RX0, TX0, 5)) rfl rfl) rfl rfl hl.1 rfl (lv_room (Nat.le_of_ble_eq_true rfl)) dX4_barrier_36 ⟨Nat.le_of_ble_eq_true rfl, Nat.le_of_ble_eq_true rfl⟩) (fun r_36 _ H locs hw_36 hP hS => ?_)
      have hf2 := kt_step hw_ hL_ hX2 hp2 (by omega) hf hw_36.1 hw_36.2.1
      rw [show (k : Int) - 1 + 1 = (k : Int) by omega] at hf2
      refine lv_istore (lv' := [(4, .int r_36), (5, .int (nI k)), (0, .ref pl), (1, .int p1), (2, .int p2), (3, .int p3)]) hx hb dX4_barrier_39 hl (by decide) rfl (fun ls hl => ?_)
      have hfi : 0 ≤ r_36.toInt ∧ r_36.toInt < L_ * w_ := by
        rcases kt_al_r (a := p2.toInt) (n := (k : Int)) hw_ hL_ hX2 (by omega) with h | h
        · exfalso; omega
        · omega
      have hps0 := kt_pth_s hp0
      rw [show (((k - 1 : Nat)) : Int) + 1 = (k : Int) by omega, ← hf2, show k - 1 + 1 = k by omega] at hps0
      have h81 : r_36.toInt < 81 := by omega
      refine lv_aload_n hx hb dX4_barrier_41 rfl (lv_at hl 2 rfl) ?_
      refine va_get (D := D) (ci := 4) (C := RX4) (T := TX4) (N := 5) hx hb hts iw_X4_barrier_X4 hown hK hP 0 rfl rfl 2 (by decide) (hts (.fieldLink RX4 12 "KingTable$Play" "now" "LKingTable$Stand;") (kt_wp_X4_barrier__X4_barrier_r1 kt_wm0)) (fun _ h9 => h9) rfl dX4_barrier_42 ?_
      refine lv_iload hx hb dX4_barrier_45 (lv_at hl 0 rfl) ?_
      refine kt_pi (wc := [(nw, .inr (8, [.ref sf, .ref sh, .int tu])), (sh, .inl (cI, 81, .inl fh))]) [6, 8] hP hD hS hA rfl (by decide) (fun hPc hDc => va_runV (As := [.int r_36]) (rest := []) ⟨hx, hb, hml, hown, hts⟩ (c_X8_holderOfE l D cI cZ cB H.size nw sf sh tu fh r_36 hfh) (cwV 1 hts gX4_barrier_X8_holderOf rfl rfl rfl (by decide +kernel) ⟨Nat.le_of_ble_eq_true rfl, Nat.le_of_ble_eq_true rfl⟩) (kt_preV hN hK hPc hDc 0 (ci := 8) (q := (RX8, TX8, 3)) rfl rfl) rfl rfl hl.1 rfl (lv_room (Nat.le_of_ble_eq_true rfl)) dX4_barrier_47 ⟨Nat.le_of_ble_eq_true rfl, Nat.le_of_ble_eq_true rfl⟩) (fun r_47 _ H locs hw_47 hP hS => ?_)
      
      refine lv_iconst (v := (-1)) hx hb dX4_barrier_50 (by decide) ?_
      refine lv_icmp_eq (tgt := 57) hx hb dX4_barrier_51 (by decide) (fun c_51 => ?_) (fun c_51 => ?_)
      · have d_51 := c_51
        simp only [kt_lt, kt_le, kt_eq, kt_c0, kt_c1, kt_c2, kt_c3, kt_c4, kt_c8, kt_c9, kt_cm1, kt_c81, kt_c40, kt_c7, kt_c5, kt_c6, kt_c512, kt_c10, kt_c10000] at d_51
        have hh : fh r_36.toInt.toNat = -1 := (hw_47.1 (by omega)).symm.trans c_51
        refine lv_aload_n hx hb dX4_barrier_57 rfl (lv_at hl 2 rfl) ?_
        refine va_get (D := D) (ci := 4) (C := RX4) (T := TX4) (N := 5) hx hb hts iw_X4_barrier_X4 hown hK hP 0 rfl rfl 1 (by decide) (hts (.fieldLink RX4 33 "KingTable$Play" "rules" "LKingTable$Rules;") (kt_wp_X4_barrier__X4_barrier_r1 kt_wm1)) (fun _ h9 => h9) rfl dX4_barrier_58 ?_
        refine lv_iload hx hb dX4_barrier_61 (lv_at hl 0 rfl) ?_
        refine lv_iload_n hx hb dX4_barrier_63 rfl (lv_at hl 3 rfl) ?_
        refine kt_pi (wc := [(ru, .inr (6, [.ref la, .ref gr, .ref rk, .ref rs, .ref rt, .int tt, .int kg, .ref rv, .int vc])), (gr, .inr (0, [.ref gt, .ref gg, .ref gn, .int gs, .int gm])), (gt, .inl (cI, 81, .inl tg))]) [1, 3, 4] hP hD hS hA rfl (by decide) (fun hPc hDc => va_runV (As := [.int r_36, .int p1]) (rest := []) ⟨hx, hb, hml, hown, hts⟩ (c_X6_bearsE l D cI cZ cB H.size ru la gr rk rs rt rv tt kg vc gt gg gn gs gm tg r_36 p1 hgs hgt) (cwV 2 hts gX4_barrier_X6_bears rfl rfl rfl (by decide +kernel) ⟨Nat.le_of_ble_eq_true rfl, Nat.le_of_ble_eq_true rfl⟩) (kt_preV hN hK hPc hDc 0 (ci := 6) (q := (RX6, TX6, 9)) rfl rfl) rfl rfl hl.1 rfl (lv_room (Nat.le_of_ble_eq_true rfl)) dX4_barrier_64 ⟨Nat.le_of_ble_eq_true rfl, Nat.le_of_ble_eq_true rfl⟩) (fun r_64 _ H locs hw_64 hP hS => ?_)
        
        refine lv_if_ne (tgt := 73) hx hb dX4_barrier_67 (by decide) (fun c_67 => ?_) (fun c_67 => ?_)
        · have d_67 := c_67
          simp only [kt_lt, kt_le, kt_eq, kt_c0, kt_c1, kt_c2, kt_c3, kt_c4, kt_c8, kt_c9, kt_cm1, kt_c81, kt_c40, kt_c7, kt_c5, kt_c6, kt_c512, kt_c10, kt_c10000] at d_67
          have hps : kt_pth fh fr (fk p1.toNatClampNeg) (ff p1.toNatClampNeg).toInt w_ L_ p2.toInt k = 0 := hps0.2.2 hh ((hw_64.t c_67).elim (fun h1 => Or.inr (hkk.mpr h1.symm)) (fun h2 => Or.inl ((htf r_36.toInt.toNat (by omega)).1.mp h2.2.2)))
          refine lv_iinc (v := nI (k + 1)) (lv' := [(5, .int (nI (k + 1))), (4, .int r_36), (0, .ref pl), (1, .int p1), (2, .int p2), (3, .int p3)]) hx hb dX4_barrier_73 hl (k := 1) rfl (nI_1 _) (by decide) rfl (fun ls hl => ?_)
          refine lv_goto (tgt := 13) hx hb dX4_barrier_76 (by decide) ?_
          exact ih_13 ((k + 1), r_36) (by show (1 ≤ (k + 1) ∧ (k + 1) ≤ 9 ∧ 9 < (k + 1) + n_13 ∧ (k + 1) ≤ n_ + 1) ∧ (-1 ≤ r_36.toInt ∧ r_36.toInt ≤ 80) ∧ r_36.toInt = kt_al (ff p1.toNatClampNeg).toInt w_ L_ p2.toInt (((k + 1) : Int) - 1) ∧ kt_pth fh fr (fk p1.toNatClampNeg) (ff p1.toNatClampNeg).toInt w_ L_ p2.toInt ((k + 1) - 1) = 0; exact ⟨by omega, by omega, by rw [show (k : Int) + 1 - 1 = (k : Int) by omega]; exact hf2, by rw [show k + 1 - 1 = k by omega]; exact hps⟩) H _ hP hD hS ls (lv_sub hl [0, 1, 2, 3, 4, 5] rfl)
        · have d_67 := c_67
          simp only [kt_lt, kt_le, kt_eq, kt_c0, kt_c1, kt_c2, kt_c3, kt_c4, kt_c8, kt_c9, kt_cm1, kt_c81, kt_c40, kt_c7, kt_c5, kt_c6, kt_c512, kt_c10, kt_c10000] at d_67
          have hpk : kt_pth fh fr (fk p1.toNatClampNeg) (ff p1.toNatClampNeg).toInt w_ L_ p2.toInt k = 9 := hps0.2.1 hh (fun h => (hw_64.f c_67) (h.elim (fun h1 => Or.inr ⟨by omega, by omega, (htf r_36.toInt.toNat (by omega)).1.mpr h1⟩) (fun h2 => Or.inl (hkk.mp h2).symm)))
          have hpn := kt_pth_m (fo := fh) (fr := fr) (kp := (fk p1.toNatClampNeg)) (x := (ff p1.toNatClampNeg).toInt) (w := w_) (L := L_) (a := p2.toInt) (n := k) (m := n_) (by rw [hpk]; decide) hkn
          refine lv_bipush (v := 9) hx hb dX4_barrier_70 (by decide) ?_
          exact kt_ri () hx hb hr hlk hS dX4_barrier_72 hP hD (by show (9 : Int32).toInt = kt_pth fh fr (fk p1.toNatClampNeg) (ff p1.toNatClampNeg).toInt w_ L_ p2.toInt n_; first | (rw [hpn, hpk]; decide) | (rw [hp0]; decide))
      · have d_51 := c_51
        simp only [kt_lt, kt_le, kt_eq, kt_c0, kt_c1, kt_c2, kt_c3, kt_c4, kt_c8, kt_c9, kt_cm1, kt_c81, kt_c40, kt_c7, kt_c5, kt_c6, kt_c512, kt_c10, kt_c10000] at d_51
        have hpk : kt_pth fh fr (fk p1.toNatClampNeg) (ff p1.toNatClampNeg).toInt w_ L_ p2.toInt k = 8 := hps0.1 (fun h => c_51 ((hw_47.1 (by omega)).trans h))
        have hpn := kt_pth_m (fo := fh) (fr := fr) (kp := (fk p1.toNatClampNeg)) (x := (ff p1.toNatClampNeg).toInt) (w := w_) (L := L_) (a := p2.toInt) (n := k) (m := n_) (by rw [hpk]; decide) hkn
        refine lv_bipush (v := 8) hx hb dX4_barrier_54 (by decide) ?_
        exact kt_ri () hx hb hr hlk hS dX4_barrier_56 hP hD (by show (8 : Int32).toInt = kt_pth fh fr (fk p1.toNatClampNeg) (ff p1.toNatClampNeg).toInt w_ L_ p2.toInt n_; first | (rw [hpn, hpk]; decide) | (rw [hp0]; decide))
