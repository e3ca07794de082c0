theorem iw_X0_beside_X0 : ∀ w ∈ wsX00, w ∈ wsX0_beside := fun _ h => kt_wp_X0_beside__X00 h
set_option maxHeartbeats 4000000 in
set_option maxRecDepth 100000 in
theorem c_X0_beside (l : Launch) (D : va_G) (cI cZ cB : ClassId) (sz : Nat) (gr : Nat) (gt : Nat) (gg : Nat) (gn : Nat) (gs : Int32) (gm : Int32) (nb : Nat → Int32) (p1 : Int32) (p2 : Int32) (hgs : 0 ≤ gs.toInt ∧ gs.toInt ≤ 81) (hnb : kt_r nb 324 (-1) 80) : kt_Mi l yX0_beside wsX0_beside { frames := 0, cells := 0, slots := 0, locals := 0 } D (kt_ty cI cZ cB) [.ref gr, .int p1, .int p2] sz [(gr, .inr (0, [.ref gt, .ref gg, .ref gn, .int gs, .int gm])), (gn, .inl (cI, 324, .inl nb))] (fun (r : Int32) (u : Unit) => -1 ≤ r.toInt ∧ r.toInt ≤ 80) (fun (u : Unit) => [(gr, .inr (0, [.ref gt, .ref gg, .ref gn, .int gs, .int gm])), (gn, .inl (cI, 324, .inl nb))]) 0 0 := by
  refine kt_Mi.of (cc := cX0_beside) (maxL := 4) (ret := some .int) (by decide) rfl (Nat.le_of_ble_eq_true rfl) ?_
  intro p e s m below meth c A ls H hAt hP hD hS hl
  obtain ⟨hx, hb, hr, hml, hown, hts, hN, hK, hlk, hnm, hA⟩ := hAt
  have hl : lv_has ls 4 [(0, .ref gr), (1, .int p1), (2, .int p2)] := hl
  have hown : s.vm.findClass RX0 = some m.cls := hown
  refine lv_iload_n hx hb dX0_beside_0 rfl (lv_at hl 1 rfl) ?_
  refine lv_if_lt (tgt := 25) hx hb dX0_beside_1 (by decide) (fun c_1 => ?_) (fun c_1 => ?_)
  · have d_1 := c_1
    simp only [kt_lt, kt_le, kt_eq, kt_c0, kt_c1, kt_c2, kt_c3, kt_c4, kt_c8, kt_c9, kt_cm1, kt_c81, kt_c40, kt_c7, kt_c5, kt_c6, kt_c512, kt_c10, kt_c10000] at d_1
    refine lv_iconst (v := 0) hx hb dX0_beside_25 (by decide) ?_
    refine lv_istore_n (lv' := [(3, .int 0), (0, .ref gr), (1, .int p1), (2, .int p2)]) hx hb dX0_beside_26 rfl hl (by decide) rfl (fun ls hl => ?_)
    refine lv_iload_n hx hb dX0_beside_27 rfl (lv_at hl 0 rfl) ?_
    refine lv_if_eq (tgt := 44) hx hb dX0_beside_28 (by decide) (fun c_28 => ?_) (fun c_28 => absurd c_28 (by decide))
    refine lv_iconst (v := (-1)) hx hb dX0_beside_44 (by decide) ?_
    exact kt_ri () hx hb hr hlk hS dX0_beside_45 hP hD (by show -1 ≤ (-1 : Int32).toInt ∧ (-1 : Int32).toInt ≤ 80; first | omega | decide)
  · have d_1 := c_1
    simp only [kt_lt, kt_le, kt_eq, kt_c0, kt_c1, kt_c2, kt_c3, kt_c4, kt_c8, kt_c9, kt_cm1, kt_c81, kt_c40, kt_c7, kt_c5, kt_c6, kt_c512, kt_c10, kt_c10000] at d_1
    refine lv_iload_n hx hb dX0_beside_4 rfl (lv_at hl 1 rfl) ?_
    refine lv_aload_n hx hb dX0_beside_5 rfl (lv_at hl 0 rfl) ?_
    refine va_get (D := D) (ci := 0) (C := RX0) (T := TX0) (N := 5) hx hb hts iw_X0_beside_X0 hown hK hP 0 rfl rfl 3 (by decide) (hts (.fieldLink RX0 28 "KingTable$Ground" "size" "I") (List.mem_cons_of_mem _ (List.mem_append_left _ (List.Mem.head _)))) (fun _ h9 => h9) rfl dX0_beside_6 ?_
    refine lv_icmp_ge (tgt := 25) hx hb dX0_beside_9 (by decide) (fun c_9 => ?_) (fun c_9 => ?_)
    · have d_9 := c_9
      simp only [kt_lt, kt_le, kt_eq, kt_c0, kt_c1, kt_c2, kt_c3, kt_c4, kt_c8, kt_c9, kt_cm1, kt_c81, kt_c40, kt_c7, kt_c5, kt_c6, kt_c512, kt_c10, kt_c10000] at d_9
      refine lv_iconst (v := 0) hx hb dX0_beside_25 (by decide) ?_
      refine lv_istore_n (lv' := [(3, .int 0), (0, .ref gr), (1, .int p1), (2, .int p2)]) hx hb dX0_beside_26 rfl hl (by decide) rfl (fun ls hl => ?_)
      refine lv_iload_n hx hb dX0_beside_27 rfl (lv_at hl 0 rfl) ?_
      refine lv_if_eq (tgt := 44) hx hb dX0_beside_28 (by decide) (fun c_28 => ?_) (fun c_28 => absurd c_28 (by decide))
      refine lv_iconst (v := (-1)) hx hb dX0_beside_44 (by decide) ?_
      exact kt_ri () hx hb hr hlk hS dX0_beside_45 hP hD (by show -1 ≤ (-1 : Int32).toInt ∧ (-1 : Int32).toInt ≤ 80; first | omega | decide)
    · have d_9 := c_9
      simp only [kt_lt, kt_le, kt_eq, kt_c0, kt_c1, kt_c2, kt_c3, kt_c4, kt_c8, kt_c9, kt_cm1, kt_c81, kt_c40, kt_c7, kt_c5, kt_c6, kt_c512, kt_c10, kt_c10000] at d_9
      refine lv_iload_n hx hb dX0_beside_12 rfl (lv_at hl 2 rfl) ?_
      refine lv_if_lt (tgt := 25) hx hb dX0_beside_13 (by decide) (fun c_13 => ?_) (fun c_13 => ?_)
      · have d_13 := c_13
        simp only [kt_lt, kt_le, kt_eq, kt_c0, kt_c1, kt_c2, kt_c3, kt_c4, kt_c8, kt_c9, kt_cm1, kt_c81, kt_c40, kt_c7, kt_c5, kt_c6, kt_c512, kt_c10, kt_c10000] at d_13
        refine lv_iconst (v := 0) hx hb dX0_beside_25 (by decide) ?_
        refine lv_istore_n (lv' := [(3, .int 0), (0, .ref gr), (1, .int p1), (2, .int p2)]) hx hb dX0_beside_26 rfl hl (by decide) rfl (fun ls hl => ?_)
        refine lv_iload_n hx hb dX0_beside_27 rfl (lv_at hl 0 rfl) ?_
        refine lv_if_eq (tgt := 44) hx hb dX0_beside_28 (by decide) (fun c_28 => ?_) (fun c_28 => absurd c_28 (by decide))
        refine lv_iconst (v := (-1)) hx hb dX0_beside_44 (by decide) ?_
        exact kt_ri () hx hb hr hlk hS dX0_beside_45 hP hD (by show -1 ≤ (-1 : Int32).toInt ∧ (-1 : Int32).toInt ≤ 80; first | omega | decide)
      · have d_13 := c_13
        simp only [kt_lt, kt_le, kt_eq, kt_c0, kt_c1, kt_c2, kt_c3, kt_c4, kt_c8, kt_c9, kt_cm1, kt_c81, kt_c40, kt_c7, kt_c5, kt_c6, kt_c512, kt_c10, kt_c10000] at d_13
        refine lv_iload_n hx hb dX0_beside_16 rfl (lv_at hl 2 rfl) ?_
        refine lv_iconst (v := 4) hx hb dX0_beside_17 (by decide) ?_
        refine lv_icmp_ge (tgt := 25) hx hb dX0_beside_18 (by decide) (fun c_18 => ?_) (fun c_18 => ?_)
        · have d_18 := c_18
          simp only [kt_lt, kt_le, kt_eq, kt_c0, kt_c1, kt_c2, kt_c3, kt_c4, kt_c8, kt_c9, kt_cm1, kt_c81, kt_c40, kt_c7, kt_c5, kt_c6, kt_c512, kt_c10, kt_c10000] at d_18
          refine lv_iconst (v := 0) hx hb dX0_beside_25 (by decide) ?_
          refine lv_istore_n (lv' := [(3, .int 0), (0, .ref gr), (1, .int p1), (2, .int p2)]) hx hb dX0_beside_26 rfl hl (by decide) rfl (fun ls hl => ?_)
          refine lv_iload_n hx hb dX0_beside_27 rfl (lv_at hl 0 rfl) ?_
          refine lv_if_eq (tgt := 44) hx hb dX0_beside_28 (by decide) (fun c_28 => ?_) (fun c_28 => absurd c_28 (by decide))
          refine lv_iconst (v := (-1)) hx hb dX0_beside_44 (by decide) ?_
          exact kt_ri () hx hb hr hlk hS dX0_beside_45 hP hD (by show -1 ≤ (-1 : Int32).toInt ∧ (-1 : Int32).toInt ≤ 80; first | omega | decide)
        · have d_18 := c_18
          simp only [kt_lt, kt_le, kt_eq, kt_c0, kt_c1, kt_c2, kt_c3, kt_c4, kt_c8, kt_c9, kt_cm1, kt_c81, kt_c40, kt_c7, kt_c5, kt_c6, kt_c512, kt_c10, kt_c10000] at d_18
          refine lv_iconst (v := 1) hx hb dX0_beside_21 (by decide) ?_
          refine lv_goto (tgt := 26) hx hb dX0_beside_22 (by decide) ?_
          refine lv_istore_n (lv' := [(3, .int 1), (0, .ref gr), (1, .int p1), (2, .int p2)]) hx hb dX0_beside_26 rfl hl (by decide) rfl (fun ls hl => ?_)
          refine lv_iload_n hx hb dX0_beside_27 rfl (lv_at hl 0 rfl) ?_
          refine lv_if_eq (tgt := 44) hx hb dX0_beside_28 (by decide) (fun c_28 => absurd c_28 (by decide)) (fun c_28 => ?_)
          refine lv_aload_n hx hb dX0_beside_31 rfl (lv_at hl 1 rfl) ?_
          refine va_get (D := D) (ci := 0) (C := RX0) (T := TX0) (N := 5) hx hb hts iw_X0_beside_X0 hown hK hP 0 rfl rfl 2 (by decide) (hts (.fieldLink RX0 19 "KingTable$Ground" "neighbours" "[I") (List.mem_cons_of_mem _ (List.mem_append_left _ (List.mem_cons_of_mem _ (List.Mem.head _))))) (fun _ h9 => h9) rfl dX0_beside_32 ?_
          refine lv_iload_n hx hb dX0_beside_35 rfl (lv_at hl 2 rfl) ?_
          refine lv_iconst (v := 4) hx hb dX0_beside_36 (by decide) ?_
          refine lv_imul hx hb dX0_beside_37 ?_
          refine lv_topi (fun t_37 et_37 => ?_)
          obtain ⟨k_37, hk_37, hm_37, hM_37⟩ := kt_mulk (C := 4) et_37 (by decide)
          try simp only [kt_c0, kt_c1, kt_c2, kt_c3, kt_c4, kt_c8, kt_c9, kt_cm1, kt_c81, kt_c40, kt_c7, kt_c5, kt_c6, kt_c512, kt_c10, kt_c10000] at hk_37
          refine lv_iload_n hx hb dX0_beside_38 rfl (lv_at hl 3 rfl) ?_
          refine lv_iadd hx hb dX0_beside_39 ?_
          refine lv_topi (fun t_39 et_39 => ?_)
          obtain ⟨k_39, hk_39, hm_39, hM_39⟩ := kt_addk et_39
          have hi_1 : vp_in t_39 324 := by exact kt_in (by omega) (by omega)
          refine va_iald hx hb hK hP 1 0 rfl rfl hi_1 dX0_beside_40 ?_
          refine lv_topi (fun a_40 ea_40 => ?_)
          have ra_40 := hnb.get hi_1
          rw [← ea_40] at ra_40
          refine lv_goto (tgt := 45) hx hb dX0_beside_41 (by decide) ?_
          exact kt_ri () hx hb hr hlk hS dX0_beside_45 hP hD (by show -1 ≤ a_40.toInt ∧ a_40.toInt ≤ 80; first | omega | decide)
