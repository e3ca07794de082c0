/-! ===== the best move ===== -/
noncomputable def kt_dk (mv : Nat → Prop) (suc : Nat → Nat) (X Y : Nat → Int) (x y : Nat) : Int := @ite Int (mv y ∧ X (suc y) = X x) (Classical.propDecidable _) (Y (suc y)) (-1)
theorem kt_dk_c (mv : Nat → Prop) (suc : Nat → Nat) (X Y : Nat → Int) (x y : Nat) : (mv y ∧ X (suc y) = X x → kt_dk mv suc X Y x y = Y (suc y)) ∧ (¬ (mv y ∧ X (suc y) = X x) → kt_dk mv suc X Y x y = -1) := by
  unfold kt_dk
  exact ⟨fun h => if_pos h, fun h => if_neg h⟩
noncomputable def kt_bst (dk : Nat → Int) (lo hi : Prop) : Nat → Int × Int
  | 0 => (-1, -1)
  | n + 1 => @ite (Int × Int) (¬ dk n = -1 ∧ ((kt_bst dk lo hi n).1 = -1 ∨ (lo ∧ dk n < (kt_bst dk lo hi n).2) ∨ (hi ∧ (kt_bst dk lo hi n).2 < dk n))) (Classical.propDecidable _) ((n : Int), dk n) (kt_bst dk lo hi n)
theorem kt_bst_s (dk : Nat → Int) (lo hi : Prop) (n : Nat) : ((¬ dk n = -1 ∧ ((kt_bst dk lo hi n).1 = -1 ∨ (lo ∧ dk n < (kt_bst dk lo hi n).2) ∨ (hi ∧ (kt_bst dk lo hi n).2 < dk n))) → (kt_bst dk lo hi (n + 1)).1 = (n : Int) ∧ (kt_bst dk lo hi (n + 1)).2 = dk n) ∧ (¬ (¬ dk n = -1 ∧ ((kt_bst dk lo hi n).1 = -1 ∨ (lo ∧ dk n < (kt_bst dk lo hi n).2) ∨ (hi ∧ (kt_bst dk lo hi n).2 < dk n))) → kt_bst dk lo hi (n + 1) = kt_bst dk lo hi n) := by
  constructor
  · intro h
    have e : kt_bst dk lo hi (n + 1) = ((n : Int), dk n) := if_pos h
    rw [e]
    exact ⟨rfl, rfl⟩
  · intro h
    exact if_neg h
set_option maxHeartbeats 4000000 in
set_option maxRecDepth 100000 in
theorem c_X7_indexOfX (l : Launch) (D : va_G) (cI cZ cB : ClassId) (sz : Nat) (so : Nat) (ru : Nat) (tr : Nat) (lk : Nat) (vp : Nat) (vd : Nat) (vt : Nat) (vg : Nat) (vw : Nat) (ve : Nat) (vo : Nat) (vq : Nat) (qd : Int32) (pp : Int32) (ct : Int32) (sv : Int32) (LW : Nat) (LH : Nat) (LS : Nat) (LQ : Nat) (la : Nat) (gr : Nat) (rk : Nat) (rs : Nat) (rt : Nat) (rv : Nat) (tt : Int32) (kg : Int32) (vc : Int32) (gt : Nat) (gg : Nat) (gn : Nat) (gs : Int32) (gm : Int32) (fp : Nat → Int32) (nw : Nat) (sf : Nat) (sh : Nat) (tu : Int32) (ff : Nat → Int32) (P_ : Nat) (B_ : Nat) (hlw : LW ≤ 10000) (hlh : LH ≤ 10000) (hls : LS ≤ 4000000) (hlq : LQ ≤ LW ∧ LQ ≤ LH) (hpp : 0 ≤ pp.toInt ∧ 2 * pp.toInt ≤ (LQ : Int)) (htt : 0 ≤ tt.toInt ∧ tt.toInt ≤ 40) (hff : kt_r ff 40 (-1) 80) (htu : 0 ≤ tu.toInt ∧ tu.toInt ≤ 1) (hsv1 : ¬ sv.toInt = 0 → tt.toInt = (P_ : Int) ∧ P_ ≤ 40 ∧ (gs.toInt = (B_ : Int) - 1 ∧ 5 ≤ B_ ∧ B_ ≤ 82) ∧ B_ ^ P_ ≤ 5000 ∧ pp.toInt = ((B_ ^ P_ : Nat) : Int) ∧ (∀ p, p < P_ → (fp p).toInt = ((B_ ^ p : Nat) : Int)) ∧ ∀ j, j < P_ → (ff j = -1 ∨ (0 ≤ (ff j).toInt ∧ (ff j).toInt < (B_ : Int) - 1))) : kt_Mi l yX7_indexOf wsX7_indexOf { frames := 1, cells := 0, slots := 0, locals := 21 } D (kt_ty cI cZ cB) [.ref so, .ref nw] sz [(so, .inr (7, [.ref ru, .ref tr, .ref lk, .ref vp, .ref vd, .ref vt, .ref vg, .ref vw, .ref ve, .ref vo, .ref vq, .int qd, .int pp, .int ct, .int sv])), (ru, .inr (6, [.ref la, .ref gr, .ref rk, .ref rs, .ref rt, .int tt, .int kg, .ref rv, .int vc])), (gr, .inr (0, [.ref gt, .ref gg, .ref gn, .int gs, .int gm])), (vp, .inl (cI, 40, .inl fp)), (nw, .inr (8, [.ref sf, .ref sh, .int tu])), (sf, .inl (cI, 40, .inl ff))] (fun (r : Int32) (u : Unit) => (sv.toInt = 0 → r.toInt = -1) ∧ (¬ sv.toInt = 0 → r.toInt = 2 * ((kt_pn B_ ff P_ : Nat) : Int) + tu.toInt ∧ 0 ≤ r.toInt ∧ r.toInt < 2 * pp.toInt)) (fun (u : Unit) => [(so, .inr (7, [.ref ru, .ref tr, .ref lk, .ref vp, .ref vd, .ref vt, .ref vg, .ref vw, .ref ve, .ref vo, .ref vq, .int qd, .int pp, .int ct, .int sv])), (ru, .inr (6, [.ref la, .ref gr, .ref rk, .ref rs, .ref rt, .int tt, .int kg, .ref rv, .int vc])), (gr, .inr (0, [.ref gt, .ref gg, .ref gn, .int gs, .int gm])), (vp, .inl (cI, 40, .inl fp)), (nw, .inr (8, [.ref sf, .ref sh, .int tu])), (sf, .inl (cI, 40, .inl ff))]) 0 0 := by
  refine kt_Mi.of (cc := cX7_indexOf) (maxL := 5) (ret := some .int) (by decide) rfl (Nat.le_of_ble_eq_true rfl) ?_
  intro p e s m below meth c A ls H hAt hP hD hS hl
  obtain ⟨hx, hb, hr, hml, hown, hts, hN, hK, hlk, hnm, hA⟩ := hAt
  have hl : lv_has ls 5 [(0, .ref so), (1, .ref nw)] := hl
  have hown : s.vm.findClass RX7 = some m.cls := hown
  refine lv_aload_n hx hb dX7_indexOf_0 rfl (lv_at hl 0 rfl) ?_
  refine va_get (D := D) (ci := 7) (C := RX7) (T := TX7) (N := 15) hx hb hts iw_X7_indexOf_X7 hown hK hP 0 rfl rfl 14 (by decide) (hts (.fieldLink RX7 54 "KingTable$Solver" "solved" "Z") (List.mem_cons_of_mem _ (List.mem_append_left _ (List.mem_append_left _ (List.mem_append_left _ (List.mem_append_left _ (List.Mem.head _))))))) (fun _ h9 => h9) rfl dX7_indexOf_1 ?_
  refine lv_if_ne (tgt := 9) hx hb dX7_indexOf_4 (by decide) (fun c_4 => ?_) (fun c_4 => ?_)
  · have d_4 := c_4
    simp only [kt_lt, kt_le, kt_eq, kt_c0, kt_c1, kt_c2, kt_c3, kt_c4, kt_c8, kt_c9, kt_cm1, kt_c81, kt_c40, kt_c7, kt_c5, kt_c6, kt_c512, kt_c10, kt_c10000] at d_4
    obtain ⟨hv1_, hv2_, hv3_, hv4_, hv5_, hv6_, hv7_⟩ := hsv1 (by omega)
    have hpb : ∀ p, p ≤ P_ → B_ ^ p ≤ 5000 := fun p hp => Nat.le_trans (Nat.pow_le_pow_right (by omega) hp) hv4_
    have hlpn : ∀ k, k ≤ P_ → kt_pn B_ ff k < B_ ^ k := fun k hk => kt_pn_lt (fun j hj => kt_dgt_lt (by omega) (hv7_ j (by omega)))
    refine lv_iconst (v := 0) hx hb dX7_indexOf_9 (by decide) ?_
    refine lv_istore_n (lv' := [(2, .int 0), (0, .ref so), (1, .ref nw)]) hx hb dX7_indexOf_10 rfl hl (by decide) rfl (fun ls hl => ?_)
    refine lv_iconst (v := 0) hx hb dX7_indexOf_11 (by decide) ?_
    refine lv_istore_n (lv' := [(3, .int 0), (2, .int 0), (0, .ref so), (1, .ref nw)]) hx hb dX7_indexOf_12 rfl hl (by decide) rfl (fun ls hl => ?_)
    refine kt_loop (σ := Nat × Int32) 13 5 (fun u => [(so, .inr (7, [.ref ru, .ref tr, .ref lk, .ref vp, .ref vd, .ref vt, .ref vg, .ref vw, .ref ve, .ref vo, .ref vq, .int qd, .int pp, .int ct, .int sv])), (ru, .inr (6, [.ref la, .ref gr, .ref rk, .ref rs, .ref rt, .int tt, .int kg, .ref rv, .int vc])), (gr, .inr (0, [.ref gt, .ref gg, .ref gn, .int gs, .int gm])), (vp, .inl (cI, 40, .inl fp)), (nw, .inr (8, [.ref sf, .ref sh, .int tu])), (sf, .inl (cI, 40, .inl ff))]) (fun u => [(3, .int (nI u.1)), (2, .int u.2), (0, .ref so), (1, .ref nw)]) (fun n u => (u.1 ≤ 40 ∧ 40 < u.1 + n ∧ u.1 ≤ P_) ∧ u.2.toInt = ((kt_pn B_ ff u.1 : Nat) : Int)) (fun u h => by omega) (fun n_13 ih_13 u hI H locs hP hD hS ls hl => ?_) (41) (0, (0 : Int32)) (by show (0 ≤ 40 ∧ 40 < 0 + 41 ∧ 0 ≤ P_) ∧ (0 : Int32).toInt = ((kt_pn B_ ff 0 : Nat) : Int); exact ⟨⟨by decide, by decide, by omega⟩, rfl⟩) hP hD hS (lv_sub hl [0, 1, 2, 3] rfl)
    obtain ⟨k, v⟩ := u
    have hP : va_P D vwCl [(so, .inr (7, [.ref ru, .ref tr, .ref lk, .ref vp, .ref vd, .ref vt, .ref vg, .ref vw, .ref ve, .ref vo, .ref vq, .int qd, .int pp, .int ct, .int sv])), (ru, .inr (6, [.ref la, .ref gr, .ref rk, .ref rs, .ref rt, .int tt, .int kg, .ref rv, .int vc])), (gr, .inr (0, [.ref gt, .ref gg, .ref gn, .int gs, .int gm])), (vp, .inl (cI, 40, .inl fp)), (nw, .inr (8, [.ref sf, .ref sh, .int tu])), (sf, .inl (cI, 40, .inl ff))] H := hP
    have hD : va_D A [(so, .inr (7, [.ref ru, .ref tr, .ref lk, .ref vp, .ref vd, .ref vt, .ref vg, .ref vw, .ref ve, .ref vo, .ref vq, .int qd, .int pp, .int ct, .int sv])), (ru, .inr (6, [.ref la, .ref gr, .ref rk, .ref rs, .ref rt, .int tt, .int kg, .ref rv, .int vc])), (gr, .inr (0, [.ref gt, .ref gg, .ref gn, .int gs, .int gm])), (vp, .inl (cI, 40, .inl fp)), (nw, .inr (8, [.ref sf, .ref sh, .int tu])), (sf, .inl (cI, 40, .inl ff))] := hD
    have hl : lv_has ls 5 [(3, .int (nI k)), (2, .int v), (0, .ref so), (1, .ref nw)] := hl
    have hI : (k ≤ 40 ∧ 40 < k + (n_13 + 1) ∧ k ≤ P_) ∧ v.toInt = ((kt_pn B_ ff k : Nat) : Int) := hI
    obtain ⟨hkb, hvk⟩ := hI
    have hk0 := kt_nI (n := k) (by omega)
    have hb1 := hlpn k hkb.2.2
    have hb2 := hpb k hkb.2.2
    refine lv_iload_n hx hb dX7_indexOf_13 rfl (lv_at hl 0 rfl) ?_
    refine lv_aload_n hx hb dX7_indexOf_14 rfl (lv_at hl 2 rfl) ?_
    refine va_get (D := D) (ci := 7) (C := RX7) (T := TX7) (N := 15) hx hb hts iw_X7_indexOf_X7 hown hK hP 0 rfl rfl 0 (by decide) (hts (.fieldLink RX7 50 "KingTable$Solver" "rules" "LKingTable$Rules;") (List.mem_cons_of_mem _ (List.mem_append_left _ (List.mem_append_left _ (List.mem_append_left _ (List.mem_append_left _ (List.mem_cons_of_mem _ (List.Mem.head _)))))))) (fun _ h9 => h9) rfl dX7_indexOf_15 ?_
    refine va_getN (D := D) (ci := 6) (C := RX6) (T := TX6) (N := 9) hx hb hts iw_X7_indexOf_X6 hown hK hP 1 rfl rfl 5 (by decide) (va_Nw.use (w := .fieldLinkNest RX7 73 "KingTable$Rules" "total" "I" "KingTable") rfl (hN _ (by decide +kernel))) (fun _ h9 => h9) rfl dX7_indexOf_18 ?_
    refine lv_icmp_ge (tgt := 68) hx hb dX7_indexOf_21 (by decide) (fun c_21 => ?_) (fun c_21 => ?_)
    · have d_21 := c_21
      simp only [kt_lt, kt_le, kt_eq, kt_c0, kt_c1, kt_c2, kt_c3, kt_c4, kt_c8, kt_c9, kt_cm1, kt_c81, kt_c40, kt_c7, kt_c5, kt_c6, kt_c512, kt_c10, kt_c10000] at d_21
      have hkP : k = P_ := by omega
      rw [hkP] at hvk hb1 hb2
      refine lv_iconst (v := 2) hx hb dX7_indexOf_68 (by decide) ?_
      refine lv_iload_n hx hb dX7_indexOf_69 rfl (lv_at hl 1 rfl) ?_
      refine lv_imul hx hb dX7_indexOf_70 ?_
      refine lv_topi (fun t_70 et_70 => ?_)
      obtain ⟨k_70, hk_70, hm_70, hM_70⟩ := kt_mulk (C := 2) (et_70.trans (Int32.mul_comm _ _)) (by decide)
      try simp only [kt_c0, kt_c1, kt_c2, kt_c3, kt_c4, kt_c8, kt_c9, kt_cm1, kt_c81, kt_c40, kt_c7, kt_c5, kt_c6, kt_c512, kt_c10, kt_c10000] at hk_70
      refine lv_aload_n hx hb dX7_indexOf_71 rfl (lv_at hl 3 rfl) ?_
      refine va_getN (D := D) (ci := 8) (C := RX8) (T := TX8) (N := 3) hx hb hts iw_X7_indexOf_X8 hown hK hP 4 rfl rfl 2 (by decide) (va_Nw.use (w := .fieldLinkNest RX7 125 "KingTable$Stand" "turn" "I" "KingTable") rfl (hN _ (by decide +kernel))) (fun _ h9 => h9) rfl dX7_indexOf_72 ?_
      refine lv_iadd hx hb dX7_indexOf_75 ?_
      refine lv_topi (fun t_75 et_75 => ?_)
      first | have hk_75 := kt_addx et_75 (by first | omega | (simp only [kt_c0, kt_c1, kt_c2, kt_c3, kt_c4, kt_c8, kt_c9, kt_cm1, kt_c81, kt_c40, kt_c7, kt_c5, kt_c6, kt_c512, kt_c10, kt_c10000]; omega)) (by first | omega | (simp only [kt_c0, kt_c1, kt_c2, kt_c3, kt_c4, kt_c8, kt_c9, kt_cm1, kt_c81, kt_c40, kt_c7, kt_c5, kt_c6, kt_c512, kt_c10, kt_c10000]; omega)) | obtain ⟨k_75, hk_75, hm_75, hM_75⟩ := kt_addk et_75
      refine lv_istore_n (lv' := [(3, .int t_75), (2, .int v), (0, .ref so), (1, .ref nw)]) hx hb dX7_indexOf_76 rfl hl (by decide) rfl (fun ls hl => ?_)
      refine lv_iload_n hx hb dX7_indexOf_77 rfl (lv_at hl 0 rfl) ?_
      refine lv_if_lt (tgt := 95) hx hb dX7_indexOf_78 (by decide) (fun c_78 => ?_) (fun c_78 => ?_)
      · have d_78 := c_78
        simp only [kt_lt, kt_le, kt_eq, kt_c0, kt_c1, kt_c2, kt_c3, kt_c4, kt_c8, kt_c9, kt_cm1, kt_c81, kt_c40, kt_c7, kt_c5, kt_c6, kt_c512, kt_c10, kt_c10000] at d_78
        refine lv_iconst (v := (-1)) hx hb dX7_indexOf_95 (by decide) ?_
        exact kt_ri () hx hb hr hlk hS dX7_indexOf_96 hP hD (by show (sv.toInt = 0 → (-1 : Int32).toInt = -1) ∧ (¬ sv.toInt = 0 → (-1 : Int32).toInt = 2 * ((kt_pn B_ ff P_ : Nat) : Int) + tu.toInt ∧ 0 ≤ (-1 : Int32).toInt ∧ (-1 : Int32).toInt < 2 * pp.toInt); first | exact ⟨fun _ => by decide, fun h => absurd (by omega) h⟩ | exact ⟨fun h => by exfalso; omega, fun _ => ⟨by omega, by omega, by omega⟩⟩ | (exfalso; omega))
      · have d_78 := c_78
        simp only [kt_lt, kt_le, kt_eq, kt_c0, kt_c1, kt_c2, kt_c3, kt_c4, kt_c8, kt_c9, kt_cm1, kt_c81, kt_c40, kt_c7, kt_c5, kt_c6, kt_c512, kt_c10, kt_c10000] at d_78
        refine lv_iload_n hx hb dX7_indexOf_81 rfl (lv_at hl 0 rfl) ?_
        refine lv_iconst (v := 2) hx hb dX7_indexOf_82 (by decide) ?_
        refine lv_aload_n hx hb dX7_indexOf_83 rfl (lv_at hl 2 rfl) ?_
        refine va_get (D := D) (ci := 7) (C := RX7) (T := TX7) (N := 15) hx hb hts iw_X7_indexOf_X7 hown hK hP 0 rfl rfl 12 (by decide) (hts (.fieldLink RX7 66 "KingTable$Solver" "places" "I") (List.mem_cons_of_mem _ (List.mem_append_left _ (List.mem_append_left _ (List.mem_append_left _ (List.mem_append_left _ (List.mem_cons_of_mem _ (List.mem_cons_of_mem _ (List.mem_cons_of_mem _ (List.Mem.head _)))))))))) (fun _ h9 => h9) rfl dX7_indexOf_84 ?_
        refine lv_imul hx hb dX7_indexOf_87 ?_
        refine lv_topi (fun t_87 et_87 => ?_)
        obtain ⟨k_87, hk_87, hm_87, hM_87⟩ := kt_mulk (C := 2) (et_87.trans (Int32.mul_comm _ _)) (by decide)
        try simp only [kt_c0, kt_c1, kt_c2, kt_c3, kt_c4, kt_c8, kt_c9, kt_cm1, kt_c81, kt_c40, kt_c7, kt_c5, kt_c6, kt_c512, kt_c10, kt_c10000] at hk_87
        refine lv_icmp_ge (tgt := 95) hx hb dX7_indexOf_88 (by decide) (fun c_88 => ?_) (fun c_88 => ?_)
        · have d_88 := c_88
          simp only [kt_lt, kt_le, kt_eq, kt_c0, kt_c1, kt_c2, kt_c3, kt_c4, kt_c8, kt_c9, kt_cm1, kt_c81, kt_c40, kt_c7, kt_c5, kt_c6, kt_c512, kt_c10, kt_c10000] at d_88
          refine lv_iconst (v := (-1)) hx hb dX7_indexOf_95 (by decide) ?_
          exact kt_ri () hx hb hr hlk hS dX7_indexOf_96 hP hD (by show (sv.toInt = 0 → (-1 : Int32).toInt = -1) ∧ (¬ sv.toInt = 0 → (-1 : Int32).toInt = 2 * ((kt_pn B_ ff P_ : Nat) : Int) + tu.toInt ∧ 0 ≤ (-1 : Int32).toInt ∧ (-1 : Int32).toInt < 2 * pp.toInt); first | exact ⟨fun _ => by decide, fun h => absurd (by omega) h⟩ | exact ⟨fun h => by exfalso; omega, fun _ => ⟨by omega, by omega, by omega⟩⟩ | (exfalso; omega))
        · have d_88 := c_88
          simp only [kt_lt, kt_le, kt_eq, kt_c0, kt_c1, kt_c2, kt_c3, kt_c4, kt_c8, kt_c9, kt_cm1, kt_c81, kt_c40, kt_c7, kt_c5, kt_c6, kt_c512, kt_c10, kt_c10000] at d_88
          refine lv_iload_n hx hb dX7_indexOf_91 rfl (lv_at hl 0 rfl) ?_
          refine lv_goto (tgt := 96) hx hb dX7_indexOf_92 (by decide) ?_
          exact kt_ri () hx hb hr hlk hS dX7_indexOf_96 hP hD (by show (sv.toInt = 0 → t_75.toInt = -1) ∧ (¬ sv.toInt = 0 → t_75.toInt = 2 * ((kt_pn B_ ff P_ : Nat) : Int) + tu.toInt ∧ 0 ≤ t_75.toInt ∧ t_75.toInt < 2 * pp.toInt); first | exact ⟨fun _ => by decide, fun h => absurd (by omega) h⟩ | exact ⟨fun h => by exfalso; omega, fun _ => ⟨by omega, by omega, by omega⟩⟩ | (exfalso; omega))
    · have d_21 := c_21
      simp only [kt_lt, kt_le, kt_eq, kt_c0, kt_c1, kt_c2, kt_c3, kt_c4, kt_c8, kt_c9, kt_cm1, kt_c81, kt_c40, kt_c7, kt_c5, kt_c6, kt_c512, kt_c10, kt_c10000] at d_21
      refine lv_aload_n hx hb dX7_indexOf_24 rfl (lv_at hl 3 rfl) ?_
      refine lv_iload_n hx hb dX7_indexOf_25 rfl (lv_at hl 0 rfl) ?_
      refine kt_pi (wc := [(nw, .inr (8, [.ref sf, .ref sh, .int tu])), (sf, .inl (cI, 40, .inl ff))]) [4, 5] hP hD hS hA rfl (by decide) (fun hPc hDc => va_runV (As := [.int (nI k)]) (rest := []) ⟨hx, hb, hml, hown, hts⟩ (c_X8_fieldOfE l D cI cZ cB H.size nw sf sh tu ff (nI k) hff) (cwV 1 hts gX7_indexOf_X8_fieldOf rfl rfl rfl (by decide +kernel) ⟨Nat.le_of_ble_eq_true rfl, Nat.le_of_ble_eq_true rfl⟩) (kt_preV hN hK hPc hDc 0 (ci := 8) (q := (RX8, TX8, 3)) rfl rfl) rfl rfl hl.1 rfl (lv_room (Nat.le_of_ble_eq_true rfl)) dX7_indexOf_26 ⟨Nat.le_of_ble_eq_true rfl, Nat.le_of_ble_eq_true rfl⟩) (fun r_26 _ H locs hw_26 hP hS => ?_)
      have e26 : r_26 = ff k := by
        have h5 := hw_26.1 (by omega)
        rw [nI_clamp (by omega)] at h5
        exact h5
      refine lv_istore (lv' := [(4, .int r_26), (3, .int (nI k)), (2, .int v), (0, .ref so), (1, .ref nw)]) hx hb dX7_indexOf_29 hl (by decide) rfl (fun ls hl => ?_)
      refine lv_iload_n hx hb dX7_indexOf_31 rfl (lv_at hl 2 rfl) ?_
      refine lv_iload hx hb dX7_indexOf_32 (lv_at hl 0 rfl) ?_
      refine lv_iconst (v := (-1)) hx hb dX7_indexOf_34 (by decide) ?_
      refine kt_join (σ := Int32) 53 5 (fun u => [(so, .inr (7, [.ref ru, .ref tr, .ref lk, .ref vp, .ref vd, .ref vt, .ref vg, .ref vw, .ref ve, .ref vo, .ref vq, .int qd, .int pp, .int ct, .int sv])), (ru, .inr (6, [.ref la, .ref gr, .ref rk, .ref rs, .ref rt, .int tt, .int kg, .ref rv, .int vc])), (gr, .inr (0, [.ref gt, .ref gg, .ref gn, .int gs, .int gm])), (vp, .inl (cI, 40, .inl fp)), (nw, .inr (8, [.ref sf, .ref sh, .int tu])), (sf, .inl (cI, 40, .inl ff))]) (fun u => [(4, .int r_26), (3, .int (nI k)), (2, .int v), (0, .ref so), (1, .ref nw)]) (fun u => [.int u, .int v]) (fun u => u.toInt = ((kt_dgt B_ (ff k) : Nat) : Int)) (D := D) (A := A) (H0 := s.heap) (fun u hI H locs hP hD hS ls hl => ?_) (fun j_53 => ?_)
      · obtain ⟨fv_, rfl⟩ : ∃ z, z = u := ⟨_, rfl⟩
        have hP : va_P D vwCl [(so, .inr (7, [.ref ru, .ref tr, .ref lk, .ref vp, .ref vd, .ref vt, .ref vg, .ref vw, .ref ve, .ref vo, .ref vq, .int qd, .int pp, .int ct, .int sv])), (ru, .inr (6, [.ref la, .ref gr, .ref rk, .ref rs, .ref rt, .int tt, .int kg, .ref rv, .int vc])), (gr, .inr (0, [.ref gt, .ref gg, .ref gn, .int gs, .int gm])), (vp, .inl (cI, 40, .inl fp)), (nw, .inr (8, [.ref sf, .ref sh, .int tu])), (sf, .inl (cI, 40, .inl ff))] H := hP
        have hD : va_D A [(so, .inr (7, [.ref ru, .ref tr, .ref lk, .ref vp, .ref vd, .ref vt, .ref vg, .ref vw, .ref ve, .ref vo, .ref vq, .int qd, .int pp, .int ct, .int sv])), (ru, .inr (6, [.ref la, .ref gr, .ref rk, .ref rs, .ref rt, .int tt, .int kg, .ref rv, .int vc])), (gr, .inr (0, [.ref gt, .ref gg, .ref gn, .int gs, .int gm])), (vp, .inl (cI, 40, .inl fp)), (nw, .inr (8, [.ref sf, .ref sh, .int tu])), (sf, .inl (cI, 40, .inl ff))] := hD
        have hl : lv_has ls 5 [(4, .int r_26), (3, .int (nI k)), (2, .int v), (0, .ref so), (1, .ref nw)] := hl
        have hI : fv_.toInt = ((kt_dgt B_ (ff k) : Nat) : Int) := hI
        have hfvi := hI
        refine lv_aload_n hx hb dX7_indexOf_53 rfl (lv_at hl 3 rfl) ?_
        refine va_get (D := D) (ci := 7) (C := RX7) (T := TX7) (N := 15) hx hb hts iw_X7_indexOf_X7 hown hK hP 0 rfl rfl 3 (by decide) (hts (.fieldLink RX7 25 "KingTable$Solver" "powers" "[I") (List.mem_cons_of_mem _ (List.mem_append_left _ (List.mem_append_left _ (List.mem_append_left _ (List.mem_append_left _ (List.mem_cons_of_mem _ (List.mem_cons_of_mem _ (List.Mem.head _))))))))) (fun _ h9 => h9) rfl dX7_indexOf_54 ?_
        refine lv_iload_n hx hb dX7_indexOf_57 rfl (lv_at hl 1 rfl) ?_
        have hi_1 : vp_in (nI k) 40 := by exact kt_in (by omega) (by omega)
        refine va_iald hx hb hK hP 3 0 rfl rfl hi_1 dX7_indexOf_58 ?_
        refine lv_topi (fun a_58 ea_58 => ?_)
        have e58 : a_58.toInt = ((B_ ^ k : Nat) : Int) := by rw [ea_58, nI_clamp (by omega)]; exact hv6_ k (by omega)
        refine lv_imul hx hb dX7_indexOf_59 ?_
        refine lv_topi (fun t_59 et_59 => ?_)
        obtain ⟨k_59, hk_59, hm_59, hM_59⟩ := kt_mulxk et_59
        have hdl := kt_dgt_lt (B := B_) (by omega) (hv7_ k (by omega))
        have hmu := kt_mulr (a := fv_.toInt) (b := a_58.toInt) (A := 82) (B := 5000) (by omega) (by have h5 := hpb k (by omega); omega)
        refine lv_iadd hx hb dX7_indexOf_60 ?_
        refine lv_topi (fun t_60 et_60 => ?_)
        first | have hk_60 := kt_addx et_60 (by first | omega | (simp only [kt_c0, kt_c1, kt_c2, kt_c3, kt_c4, kt_c8, kt_c9, kt_cm1, kt_c81, kt_c40, kt_c7, kt_c5, kt_c6, kt_c512, kt_c10, kt_c10000]; omega)) (by first | omega | (simp only [kt_c0, kt_c1, kt_c2, kt_c3, kt_c4, kt_c8, kt_c9, kt_cm1, kt_c81, kt_c40, kt_c7, kt_c5, kt_c6, kt_c512, kt_c10, kt_c10000]; omega)) | obtain ⟨k_60, hk_60, hm_60, hM_60⟩ := kt_addk et_60
        refine lv_istore_n (lv' := [(2, .int t_60), (4, .int r_26), (3, .int (nI k)), (0, .ref so), (1, .ref nw)]) hx hb dX7_indexOf_61 rfl hl (by decide) rfl (fun ls hl => ?_)
        refine lv_iinc (v := nI (k + 1)) (lv' := [(3, .int (nI (k + 1))), (2, .int t_60), (4, .int r_26), (0, .ref so), (1, .ref nw)]) hx hb dX7_indexOf_62 hl (k := 2) rfl (nI_1 _) (by decide) rfl (fun ls hl => ?_)
        refine lv_goto (tgt := 13) hx hb dX7_indexOf_65 (by decide) ?_
        exact ih_13 ((k + 1), t_60) (by show ((k + 1) ≤ 40 ∧ 40 < (k + 1) + n_13 ∧ (k + 1) ≤ P_) ∧ t_60.toInt = ((kt_pn B_ ff (k + 1) : Nat) : Int); exact ⟨by omega, by show t_60.toInt = ((kt_pn B_ ff k + kt_dgt B_ (ff k) * B_ ^ k : Nat) : Int); rw [Int.natCast_add, Int.natCast_mul, ← hfvi, ← e58]; omega⟩) H _ hP hD hS ls (lv_sub hl [0, 1, 3, 4] rfl)
      refine lv_icmp_ne (tgt := 51) hx hb dX7_indexOf_35 (by decide) (fun c_35 => ?_) (fun c_35 => ?_)
      · have d_35 := c_35
        simp only [kt_lt, kt_le, kt_eq, kt_c0, kt_c1, kt_c2, kt_c3, kt_c4, kt_c8, kt_c9, kt_cm1, kt_c81, kt_c40, kt_c7, kt_c5, kt_c6, kt_c512, kt_c10, kt_c10000] at d_35
        refine lv_iload hx hb dX7_indexOf_51 (lv_at hl 0 rfl) ?_
        exact j_53 r_26 (by show r_26.toInt = ((kt_dgt B_ (ff k) : Nat) : Int); first
             | (rw [show ff k = -1 from e26.symm.trans c_35, kt_dgt_m1 (by omega)]; omega)
             | ((have h0 : 0 ≤ (ff k).toInt := (hv7_ k (by omega)).elim (fun h => absurd (e26.trans h) c_35) (fun h => h.1)); rw [kt_dgt_of h0, e26])) H _ hP hD hS ls (lv_sub hl [0, 1, 2, 3, 4] rfl)
      · have d_35 := c_35
        simp only [kt_lt, kt_le, kt_eq, kt_c0, kt_c1, kt_c2, kt_c3, kt_c4, kt_c8, kt_c9, kt_cm1, kt_c81, kt_c40, kt_c7, kt_c5, kt_c6, kt_c512, kt_c10, kt_c10000] at d_35
        refine lv_aload_n hx hb dX7_indexOf_38 rfl (lv_at hl 3 rfl) ?_
        refine va_get (D := D) (ci := 7) (C := RX7) (T := TX7) (N := 15) hx hb hts iw_X7_indexOf_X7 hown hK hP 0 rfl rfl 0 (by decide) (hts (.fieldLink RX7 50 "KingTable$Solver" "rules" "LKingTable$Rules;") (List.mem_cons_of_mem _ (List.mem_append_left _ (List.mem_append_left _ (List.mem_append_left _ (List.mem_append_left _ (List.mem_cons_of_mem _ (List.Mem.head _)))))))) (fun _ h9 => h9) rfl dX7_indexOf_39 ?_
        refine va_getN (D := D) (ci := 6) (C := RX6) (T := TX6) (N := 9) hx hb hts iw_X7_indexOf_X6 hown hK hP 1 rfl rfl 1 (by decide) (va_Nw.use (w := .fieldLinkNest RX7 78 "KingTable$Rules" "ground" "LKingTable$Ground;" "KingTable") rfl (hN _ (by decide +kernel))) (fun _ h9 => h9) rfl dX7_indexOf_42 ?_
        refine va_getN (D := D) (ci := 0) (C := RX0) (T := TX0) (N := 5) hx hb hts iw_X7_indexOf_X0 hown hK hP 2 rfl rfl 3 (by decide) (va_Nw.use (w := .fieldLinkNest RX7 115 "KingTable$Ground" "size" "I" "KingTable") rfl (hN _ (by decide +kernel))) (fun _ h9 => h9) rfl dX7_indexOf_45 ?_
        refine lv_goto (tgt := 53) hx hb dX7_indexOf_48 (by decide) ?_
        exact j_53 gs (by show gs.toInt = ((kt_dgt B_ (ff k) : Nat) : Int); first
             | (rw [show ff k = -1 from e26.symm.trans c_35, kt_dgt_m1 (by omega)]; omega)
             | ((have h0 : 0 ≤ (ff k).toInt := (hv7_ k (by omega)).elim (fun h => absurd (e26.trans h) c_35) (fun h => h.1)); rw [kt_dgt_of h0, e26])) H _ hP hD hS ls (lv_sub hl [0, 1, 2, 3, 4] rfl)
  · have d_4 := c_4
    simp only [kt_lt, kt_le, kt_eq, kt_c0, kt_c1, kt_c2, kt_c3, kt_c4, kt_c8, kt_c9, kt_cm1, kt_c81, kt_c40, kt_c7, kt_c5, kt_c6, kt_c512, kt_c10, kt_c10000] at d_4
    refine lv_iconst (v := (-1)) hx hb dX7_indexOf_7 (by decide) ?_
    exact kt_ri () hx hb hr hlk hS dX7_indexOf_8 hP hD (by show (sv.toInt = 0 → (-1 : Int32).toInt = -1) ∧ (¬ sv.toInt = 0 → (-1 : Int32).toInt = 2 * ((kt_pn B_ ff P_ : Nat) : Int) + tu.toInt ∧ 0 ≤ (-1 : Int32).toInt ∧ (-1 : Int32).toInt < 2 * pp.toInt); first | exact ⟨fun _ => by decide, fun h => absurd (by omega) h⟩ | exact ⟨fun h => by exfalso; omega, fun _ => ⟨by omega, by omega, by omega⟩⟩ | (exfalso; omega))

set_option maxHeartbeats 4000000 in
set_option maxRecDepth 100000 in
theorem c_X7_worthOfX (l : Launch) (D : va_G) (cI cZ cB : ClassId) (sz : Nat) (so : Nat) (ru : Nat) (tr : Nat) (lk : Nat) (vp : Nat) (vd : Nat) (vt : Nat) (vg : Nat) (vw : Nat) (ve : Nat) (vo : Nat) (vq : Nat) (qd : Int32) (pp : Int32) (ct : Int32) (sv : Int32) (LW : Nat) (LH : Nat) (LS : Nat) (LQ : Nat) (la : Nat) (gr : Nat) (rk : Nat) (rs : Nat) (rt : Nat) (rv : Nat) (tt : Int32) (kg : Int32) (vc : Int32) (gt : Nat) (gg : Nat) (gn : Nat) (gs : Int32) (gm : Int32) (fp : Nat → Int32) (nw : Nat) (sf : Nat) (sh : Nat) (tu : Int32) (ff : Nat → Int32) (P_ : Nat) (B_ : Nat) (wo : Nat → Int32) (hlw : LW ≤ 10000) (hlh : LH ≤ 10000) (hls : LS ≤ 4000000) (hlq : LQ ≤ LW ∧ LQ ≤ LH) (hpp : 0 ≤ pp.toInt ∧ 2 * pp.toInt ≤ (LQ : Int)) (htt : 0 ≤ tt.toInt ∧ tt.toInt ≤ 40) (hff : kt_r ff 40 (-1) 80) (htu : 0 ≤ tu.toInt ∧ tu.toInt ≤ 1) (hsv1 : ¬ sv.toInt = 0 → tt.toInt = (P_ : Int) ∧ P_ ≤ 40 ∧ (gs.toInt = (B_ : Int) - 1 ∧ 5 ≤ B_ ∧ B_ ≤ 82) ∧ B_ ^ P_ ≤ 5000 ∧ pp.toInt = ((B_ ^ P_ : Nat) : Int) ∧ (∀ p, p < P_ → (fp p).toInt = ((B_ ^ p : Nat) : Int)) ∧ ∀ j, j < P_ → (ff j = -1 ∨ (0 ≤ (ff j).toInt ∧ (ff j).toInt < (B_ : Int) - 1))) : kt_Mi l yX7_worthOf wsX7_worthOf { frames := 2, cells := 0, slots := 0, locals := 45 } D (kt_ty cI cZ cB) [.ref so, .ref nw] sz [(so, .inr (7, [.ref ru, .ref tr, .ref lk, .ref vp, .ref vd, .ref vt, .ref vg, .ref vw, .ref ve, .ref vo, .ref vq, .int qd, .int pp, .int ct, .int sv])), (ru, .inr (6, [.ref la, .ref gr, .ref rk, .ref rs, .ref rt, .int tt, .int kg, .ref rv, .int vc])), (gr, .inr (0, [.ref gt, .ref gg, .ref gn, .int gs, .int gm])), (vp, .inl (cI, 40, .inl fp)), (nw, .inr (8, [.ref sf, .ref sh, .int tu])), (sf, .inl (cI, 40, .inl ff)), (vw, .inl (cI, LW, .inl wo))] (fun (r : Int32) (u : Unit) => (sv.toInt = 0 → r.toInt = -1) ∧ (¬ sv.toInt = 0 → r = wo (2 * kt_pn B_ ff P_ + tu.toInt.toNat))) (fun (u : Unit) => [(so, .inr (7, [.ref ru, .ref tr, .ref lk, .ref vp, .ref vd, .ref vt, .ref vg, .ref vw, .ref ve, .ref vo, .ref vq, .int qd, .int pp, .int ct, .int sv])), (ru, .inr (6, [.ref la, .ref gr, .ref rk, .ref rs, .ref rt, .int tt, .int kg, .ref rv, .int vc])), (gr, .inr (0, [.ref gt, .ref gg, .ref gn, .int gs, .int gm])), (vp, .inl (cI, 40, .inl fp)), (nw, .inr (8, [.ref sf, .ref sh, .int tu])), (sf, .inl (cI, 40, .inl ff)), (vw, .inl (cI, LW, .inl wo))]) 0 0 := by
  refine kt_Mi.of (cc := cX7_worthOf) (maxL := 3) (ret := some .int) (by decide) rfl (Nat.le_of_ble_eq_true rfl) ?_
  intro p e s m below meth c A ls H hAt hP hD hS hl
  obtain ⟨hx, hb, hr, hml, hown, hts, hN, hK, hlk, hnm, hA⟩ := hAt
  have hl : lv_has ls 3 [(0, .ref so), (1, .ref nw)] := hl
  have hown : s.vm.findClass RX7 = some m.cls := hown
  refine lv_aload_n hx hb dX7_worthOf_0 rfl (lv_at hl 0 rfl) ?_
  refine lv_aload_n hx hb dX7_worthOf_1 rfl (lv_at hl 1 rfl) ?_
  refine kt_pi (wc := [(so, .inr (7, [.ref ru, .ref tr, .ref lk, .ref vp, .ref vd, .ref vt, .ref vg, .ref vw, .ref ve, .ref vo, .ref vq, .int qd, .int pp, .int ct, .int sv])), (ru, .inr (6, [.ref la, .ref gr, .ref rk, .ref rs, .ref rt, .int tt, .int kg, .ref rv, .int vc])), (gr, .inr (0, [.ref gt, .ref gg, .ref gn, .int gs, .int gm])), (vp, .inl (cI, 40, .inl fp)), (nw, .inr (8, [.ref sf, .ref sh, .int tu])), (sf, .inl (cI, 40, .inl ff))]) [0, 1, 2, 3, 4, 5] hP hD hS hA rfl (by decide) (fun hPc hDc => va_runV (As := [.ref nw]) (rest := []) ⟨hx, hb, hml, hown, hts⟩ (c_X7_indexOfX l D cI cZ cB H.size so ru tr lk vp vd vt vg vw ve vo vq qd pp ct sv LW LH LS LQ la gr rk rs rt rv tt kg vc gt gg gn gs gm fp nw sf sh tu ff P_ B_ hlw hlh hls hlq hpp htt hff htu hsv1) (cwV 1 hts gX7_worthOf_X7_indexOf rfl rfl rfl (by decide +kernel) ⟨Nat.le_of_ble_eq_true rfl, Nat.le_of_ble_eq_true rfl⟩) (kt_preV hN hK hPc hDc 0 (ci := 7) (q := (RX7, TX7, 15)) rfl rfl) rfl rfl hl.1 rfl (lv_room (Nat.le_of_ble_eq_true rfl)) dX7_worthOf_2 ⟨Nat.le_of_ble_eq_true rfl, Nat.le_of_ble_eq_true rfl⟩) (fun r_2 _ H locs hw_2 hP hS => ?_)
  
  refine lv_istore_n (lv' := [(2, .int r_2), (0, .ref so), (1, .ref nw)]) hx hb dX7_worthOf_5 rfl hl (by decide) rfl (fun ls hl => ?_)
  refine lv_iload_n hx hb dX7_worthOf_6 rfl (lv_at hl 0 rfl) ?_
  refine lv_iconst (v := (-1)) hx hb dX7_worthOf_7 (by decide) ?_
  refine lv_icmp_ne (tgt := 15) hx hb dX7_worthOf_8 (by decide) (fun c_8 => ?_) (fun c_8 => ?_)
  · have d_8 := c_8
    simp only [kt_lt, kt_le, kt_eq, kt_c0, kt_c1, kt_c2, kt_c3, kt_c4, kt_c8, kt_c9, kt_cm1, kt_c81, kt_c40, kt_c7, kt_c5, kt_c6, kt_c512, kt_c10, kt_c10000] at d_8
    have hs0 : ¬ sv.toInt = 0 := fun h => by have h5 := hw_2.1 h; omega
    have h2_ := hw_2.2 hs0
    have hxN : r_2.toNatClampNeg = (2 * kt_pn B_ ff P_ + tu.toInt.toNat) := by
      show r_2.toInt.toNat = _
      omega
    refine lv_aload_n hx hb dX7_worthOf_15 rfl (lv_at hl 1 rfl) ?_
    refine va_get (D := D) (ci := 7) (C := RX7) (T := TX7) (N := 15) hx hb hts iw_X7_worthOf_X7 hown hK hP 0 rfl rfl 7 (by decide) (hts (.fieldLink RX7 38 "KingTable$Solver" "worths" "[I") (List.mem_cons_of_mem _ (List.mem_append_left _ (List.mem_append_left _ (List.mem_append_left _ (List.mem_append_left _ (List.Mem.head _))))))) (fun _ h9 => h9) rfl dX7_worthOf_16 ?_
    refine lv_iload_n hx hb dX7_worthOf_19 rfl (lv_at hl 0 rfl) ?_
    have hi_1 : vp_in r_2 LW := by exact kt_in (by omega) (by omega)
    refine va_iald hx hb hK hP 6 0 rfl rfl hi_1 dX7_worthOf_20 ?_
    refine lv_topi (fun a_20 ea_20 => ?_)
    exact kt_ri () hx hb hr hlk hS dX7_worthOf_21 hP hD (by show (sv.toInt = 0 → a_20.toInt = -1) ∧ (¬ sv.toInt = 0 → a_20 = wo (2 * kt_pn B_ ff P_ + tu.toInt.toNat)); first | exact ⟨fun _ => by decide, fun h => by exfalso; have h5 := hw_2.2 h; omega⟩ | exact ⟨fun h => absurd h hs0, fun _ => by rw [ea_20, hxN]⟩)
  · have d_8 := c_8
    simp only [kt_lt, kt_le, kt_eq, kt_c0, kt_c1, kt_c2, kt_c3, kt_c4, kt_c8, kt_c9, kt_cm1, kt_c81, kt_c40, kt_c7, kt_c5, kt_c6, kt_c512, kt_c10, kt_c10000] at d_8
    refine lv_iconst (v := (-1)) hx hb dX7_worthOf_11 (by decide) ?_
    refine lv_goto (tgt := 21) hx hb dX7_worthOf_12 (by decide) ?_
    exact kt_ri () hx hb hr hlk hS dX7_worthOf_21 hP hD (by show (sv.toInt = 0 → (-1 : Int32).toInt = -1) ∧ (¬ sv.toInt = 0 → (-1 : Int32) = wo (2 * kt_pn B_ ff P_ + tu.toInt.toNat)); first | exact ⟨fun _ => by decide, fun h => by exfalso; have h5 := hw_2.2 h; omega⟩ | exact ⟨fun h => absurd h hs0, fun _ => by rw [ea_20, hxN]⟩)

set_option maxHeartbeats 4000000 in
set_option maxRecDepth 100000 in
theorem c_X7_deepOfX (l : Launch) (D : va_G) (cI cZ cB : ClassId) (sz : Nat) (so : Nat) (ru : Nat) (tr : Nat) (lk : Nat) (vp : Nat) (vd : Nat) (vt : Nat) (vg : Nat) (vw : Nat) (ve : Nat) (vo : Nat) (vq : Nat) (qd : Int32) (pp : Int32) (ct : Int32) (sv : Int32) (LW : Nat) (LH : Nat) (LS : Nat) (LQ : Nat) (la : Nat) (gr : Nat) (rk : Nat) (rs : Nat) (rt : Nat) (rv : Nat) (tt : Int32) (kg : Int32) (vc : Int32) (gt : Nat) (gg : Nat) (gn : Nat) (gs : Int32) (gm : Int32) (fp : Nat → Int32) (nw : Nat) (sf : Nat) (sh : Nat) (tu : Int32) (ff : Nat → Int32) (P_ : Nat) (B_ : Nat) (de : Nat → Int32) (hlw : LW ≤ 10000) (hlh : LH ≤ 10000) (hls : LS ≤ 4000000) (hlq : LQ ≤ LW ∧ LQ ≤ LH) (hpp : 0 ≤ pp.toInt ∧ 2 * pp.toInt ≤ (LQ : Int)) (htt : 0 ≤ tt.toInt ∧ tt.toInt ≤ 40) (hff : kt_r ff 40 (-1) 80) (htu : 0 ≤ tu.toInt ∧ tu.toInt ≤ 1) (hsv1 : ¬ sv.toInt = 0 → tt.toInt = (P_ : Int) ∧ P_ ≤ 40 ∧ (gs.toInt = (B_ : Int) - 1 ∧ 5 ≤ B_ ∧ B_ ≤ 82) ∧ B_ ^ P_ ≤ 5000 ∧ pp.toInt = ((B_ ^ P_ : Nat) : Int) ∧ (∀ p, p < P_ → (fp p).toInt = ((B_ ^ p : Nat) : Int)) ∧ ∀ j, j < P_ → (ff j = -1 ∨ (0 ≤ (ff j).toInt ∧ (ff j).toInt < (B_ : Int) - 1))) : kt_Mi l yX7_deepOf wsX7_deepOf { frames := 2, cells := 0, slots := 0, locals := 45 } D (kt_ty cI cZ cB) [.ref so, .ref nw] sz [(so, .inr (7, [.ref ru, .ref tr, .ref lk, .ref vp, .ref vd, .ref vt, .ref vg, .ref vw, .ref ve, .ref vo, .ref vq, .int qd, .int pp, .int ct, .int sv])), (ru, .inr (6, [.ref la, .ref gr, .ref rk, .ref rs, .ref rt, .int tt, .int kg, .ref rv, .int vc])), (gr, .inr (0, [.ref gt, .ref gg, .ref gn, .int gs, .int gm])), (vp, .inl (cI, 40, .inl fp)), (nw, .inr (8, [.ref sf, .ref sh, .int tu])), (sf, .inl (cI, 40, .inl ff)), (ve, .inl (cI, LW, .inl de))] (fun (r : Int32) (u : Unit) => (sv.toInt = 0 → r.toInt = -1) ∧ (¬ sv.toInt = 0 → r = de (2 * kt_pn B_ ff P_ + tu.toInt.toNat))) (fun (u : Unit) => [(so, .inr (7, [.ref ru, .ref tr, .ref lk, .ref vp, .ref vd, .ref vt, .ref vg, .ref vw, .ref ve, .ref vo, .ref vq, .int qd, .int pp, .int ct, .int sv])), (ru, .inr (6, [.ref la, .ref gr, .ref rk, .ref rs, .ref rt, .int tt, .int kg, .ref rv, .int vc])), (gr, .inr (0, [.ref gt, .ref gg, .ref gn, .int gs, .int gm])), (vp, .inl (cI, 40, .inl fp)), (nw, .inr (8, [.ref sf, .ref sh, .int tu])), (sf, .inl (cI, 40, .inl ff)), (ve, .inl (cI, LW, .inl de))]) 0 0 := by
  refine kt_Mi.of (cc := cX7_deepOf) (maxL := 3) (ret := some .int) (by decide) rfl (Nat.le_of_ble_eq_true rfl) ?_
  intro p e s m below meth c A ls H hAt hP hD hS hl
  obtain ⟨hx, hb, hr, hml, hown, hts, hN, hK, hlk, hnm, hA⟩ := hAt
  have hl : lv_has ls 3 [(0, .ref so), (1, .ref nw)] := hl
  have hown : s.vm.findClass RX7 = some m.cls := hown
  refine lv_aload_n hx hb dX7_deepOf_0 rfl (lv_at hl 0 rfl) ?_
  refine lv_aload_n hx hb dX7_deepOf_1 rfl (lv_at hl 1 rfl) ?_
  refine kt_pi (wc := [(so, .inr (7, [.ref ru, .ref tr, .ref lk, .ref vp, .ref vd, .ref vt, .ref vg, .ref vw, .ref ve, .ref vo, .ref vq, .int qd, .int pp, .int ct, .int sv])), (ru, .inr (6, [.ref la, .ref gr, .ref rk, .ref rs, .ref rt, .int tt, .int kg, .ref rv, .int vc])), (gr, .inr (0, [.ref gt, .ref gg, .ref gn, .int gs, .int gm])), (vp, .inl (cI, 40, .inl fp)), (nw, .inr (8, [.ref sf, .ref sh, .int tu])), (sf, .inl (cI, 40, .inl ff))]) [0, 1, 2, 3, 4, 5] hP hD hS hA rfl (by decide) (fun hPc hDc => va_runV (As := [.ref nw]) (rest := []) ⟨hx, hb, hml, hown, hts⟩ (c_X7_indexOfX l D cI cZ cB H.size so ru tr lk vp vd vt vg vw ve vo vq qd pp ct sv LW LH LS LQ la gr rk rs rt rv tt kg vc gt gg gn gs gm fp nw sf sh tu ff P_ B_ hlw hlh hls hlq hpp htt hff htu hsv1) (cwV 1 hts gX7_deepOf_X7_indexOf rfl rfl rfl (by decide +kernel) ⟨Nat.le_of_ble_eq_true rfl, Nat.le_of_ble_eq_true rfl⟩) (kt_preV hN hK hPc hDc 0 (ci := 7) (q := (RX7, TX7, 15)) rfl rfl) rfl rfl hl.1 rfl (lv_room (Nat.le_of_ble_eq_true rfl)) dX7_deepOf_2 ⟨Nat.le_of_ble_eq_true rfl, Nat.le_of_ble_eq_true rfl⟩) (fun r_2 _ H locs hw_2 hP hS => ?_)
  
  refine lv_istore_n (lv' := [(2, .int r_2), (0, .ref so), (1, .ref nw)]) hx hb dX7_deepOf_5 rfl hl (by decide) rfl (fun ls hl => ?_)
  refine lv_iload_n hx hb dX7_deepOf_6 rfl (lv_at hl 0 rfl) ?_
  refine lv_iconst (v := (-1)) hx hb dX7_deepOf_7 (by decide) ?_
  refine lv_icmp_ne (tgt := 15) hx hb dX7_deepOf_8 (by decide) (fun c_8 => ?_) (fun c_8 => ?_)
  · have d_8 := c_8
    simp only [kt_lt, kt_le, kt_eq, kt_c0, kt_c1, kt_c2, kt_c3, kt_c4, kt_c8, kt_c9, kt_cm1, kt_c81, kt_c40, kt_c7, kt_c5, kt_c6, kt_c512, kt_c10, kt_c10000] at d_8
    have hs0 : ¬ sv.toInt = 0 := fun h => by have h5 := hw_2.1 h; omega
    have h2_ := hw_2.2 hs0
    have hxN : r_2.toNatClampNeg = (2 * kt_pn B_ ff P_ + tu.toInt.toNat) := by
      show r_2.toInt.toNat = _
      omega
    refine lv_aload_n hx hb dX7_deepOf_15 rfl (lv_at hl 1 rfl) ?_
    refine va_get (D := D) (ci := 7) (C := RX7) (T := TX7) (N := 15) hx hb hts iw_X7_deepOf_X7 hown hK hP 0 rfl rfl 8 (by decide) (hts (.fieldLink RX7 41 "KingTable$Solver" "deeps" "[I") (List.mem_cons_of_mem _ (List.mem_append_left _ (List.mem_append_left _ (List.mem_append_left _ (List.mem_append_left _ (List.Mem.head _))))))) (fun _ h9 => h9) rfl dX7_deepOf_16 ?_
    refine lv_iload_n hx hb dX7_deepOf_19 rfl (lv_at hl 0 rfl) ?_
    have hi_1 : vp_in r_2 LW := by exact kt_in (by omega) (by omega)
    refine va_iald hx hb hK hP 6 0 rfl rfl hi_1 dX7_deepOf_20 ?_
    refine lv_topi (fun a_20 ea_20 => ?_)
    exact kt_ri () hx hb hr hlk hS dX7_deepOf_21 hP hD (by show (sv.toInt = 0 → a_20.toInt = -1) ∧ (¬ sv.toInt = 0 → a_20 = de (2 * kt_pn B_ ff P_ + tu.toInt.toNat)); first | exact ⟨fun _ => by decide, fun h => by exfalso; have h5 := hw_2.2 h; omega⟩ | exact ⟨fun h => absurd h hs0, fun _ => by rw [ea_20, hxN]⟩)
  · have d_8 := c_8
    simp only [kt_lt, kt_le, kt_eq, kt_c0, kt_c1, kt_c2, kt_c3, kt_c4, kt_c8, kt_c9, kt_cm1, kt_c81, kt_c40, kt_c7, kt_c5, kt_c6, kt_c512, kt_c10, kt_c10000] at d_8
    refine lv_iconst (v := (-1)) hx hb dX7_deepOf_11 (by decide) ?_
    refine lv_goto (tgt := 21) hx hb dX7_deepOf_12 (by decide) ?_
    exact kt_ri () hx hb hr hlk hS dX7_deepOf_21 hP hD (by show (sv.toInt = 0 → (-1 : Int32).toInt = -1) ∧ (¬ sv.toInt = 0 → (-1 : Int32) = de (2 * kt_pn B_ ff P_ + tu.toInt.toNat)); first | exact ⟨fun _ => by decide, fun h => by exfalso; have h5 := hw_2.2 h; omega⟩ | exact ⟨fun h => absurd h hs0, fun _ => by rw [ea_20, hxN]⟩)

set_option maxHeartbeats 4000000 in
set_option maxRecDepth 100000 in
theorem c_X7_tallyX (l : Launch) (D : va_G) (cI cZ cB : ClassId) (sz : Nat) (so : Nat) (ru : Nat) (tr : Nat) (lk : Nat) (vp : Nat) (vd : Nat) (vt : Nat) (vg : Nat) (vw : Nat) (ve : Nat) (vo : Nat) (vq : Nat) (qd : Int32) (pp : Int32) (ct : Int32) (sv : Int32) (ta : Nat → Int32) (p1 : Int32) (p2 : Int32) : kt_Mi l yX7_tally wsX7_tally { frames := 1, cells := 0, slots := 0, locals := 20 } D (kt_ty cI cZ cB) [.ref so, .int p1, .int p2] sz [(so, .inr (7, [.ref ru, .ref tr, .ref lk, .ref vp, .ref vd, .ref vt, .ref vg, .ref vw, .ref ve, .ref vo, .ref vq, .int qd, .int pp, .int ct, .int sv])), (vt, .inl (cI, 6, .inl ta))] (fun (r : Int32) (u : Unit) => (r.toInt = -1 ∧ ¬ (¬ sv.toInt = 0 ∧ 0 ≤ p1.toInt ∧ p1.toInt < 3 ∧ (p2.toInt = 0 ∨ p2.toInt = 1))) ∨ ((¬ sv.toInt = 0 ∧ 0 ≤ p1.toInt ∧ p1.toInt < 3 ∧ (p2.toInt = 0 ∨ p2.toInt = 1)) ∧ r = ta (2 * p1.toInt.toNat + p2.toInt.toNat))) (fun (u : Unit) => [(so, .inr (7, [.ref ru, .ref tr, .ref lk, .ref vp, .ref vd, .ref vt, .ref vg, .ref vw, .ref ve, .ref vo, .ref vq, .int qd, .int pp, .int ct, .int sv])), (vt, .inl (cI, 6, .inl ta))]) 0 0 := by
  refine kt_Mi.of (cc := cX7_tally) (maxL := 3) (ret := some .int) (by decide) rfl (Nat.le_of_ble_eq_true rfl) ?_
  intro p e s m below meth c A ls H hAt hP hD hS hl
  obtain ⟨hx, hb, hr, hml, hown, hts, hN, hK, hlk, hnm, hA⟩ := hAt
  have hl : lv_has ls 3 [(0, .ref so), (1, .int p1), (2, .int p2)] := hl
  have hown : s.vm.findClass RX7 = some m.cls := hown
  refine lv_aload_n hx hb dX7_tally_0 rfl (lv_at hl 0 rfl) ?_
  refine va_get (D := D) (ci := 7) (C := RX7) (T := TX7) (N := 15) hx hb hts iw_X7_tally_X7 hown hK hP 0 rfl rfl 14 (by decide) (hts (.fieldLink RX7 54 "KingTable$Solver" "solved" "Z") (List.mem_cons_of_mem _ (List.mem_append_left _ (List.Mem.head _)))) (fun _ h9 => h9) rfl dX7_tally_1 ?_
  refine lv_if_eq (tgt := 23) hx hb dX7_tally_4 (by decide) (fun c_4 => ?_) (fun c_4 => ?_)
  · have d_4 := c_4
    simp only [kt_lt, kt_le, kt_eq, kt_c0, kt_c1, kt_c2, kt_c3, kt_c4, kt_c8, kt_c9, kt_cm1, kt_c81, kt_c40, kt_c7, kt_c5, kt_c6, kt_c512, kt_c10, kt_c10000] at d_4
    refine lv_iconst (v := (-1)) hx hb dX7_tally_23 (by decide) ?_
    exact kt_ri () hx hb hr hlk hS dX7_tally_24 hP hD (by show ((-1 : Int32).toInt = -1 ∧ ¬ (¬ sv.toInt = 0 ∧ 0 ≤ p1.toInt ∧ p1.toInt < 3 ∧ (p2.toInt = 0 ∨ p2.toInt = 1))) ∨ ((¬ sv.toInt = 0 ∧ 0 ≤ p1.toInt ∧ p1.toInt < 3 ∧ (p2.toInt = 0 ∨ p2.toInt = 1)) ∧ (-1 : Int32) = ta (2 * p1.toInt.toNat + p2.toInt.toNat)); first | exact Or.inl ⟨by decide, fun h => by omega⟩ | exact Or.inl ⟨by decide, fun h => (hw_17.f c_20) h.2.2.2⟩ | exact Or.inr ⟨⟨by omega, by omega, by omega, hq1⟩, by rw [ea_34, show t_33.toNatClampNeg = 2 * p1.toInt.toNat + p2.toInt.toNat from (by show t_33.toInt.toNat = _; omega)]⟩)
  · have d_4 := c_4
    simp only [kt_lt, kt_le, kt_eq, kt_c0, kt_c1, kt_c2, kt_c3, kt_c4, kt_c8, kt_c9, kt_cm1, kt_c81, kt_c40, kt_c7, kt_c5, kt_c6, kt_c512, kt_c10, kt_c10000] at d_4
    refine lv_iload_n hx hb dX7_tally_7 rfl (lv_at hl 1 rfl) ?_
    refine lv_if_lt (tgt := 23) hx hb dX7_tally_8 (by decide) (fun c_8 => ?_) (fun c_8 => ?_)
    · have d_8 := c_8
      simp only [kt_lt, kt_le, kt_eq, kt_c0, kt_c1, kt_c2, kt_c3, kt_c4, kt_c8, kt_c9, kt_cm1, kt_c81, kt_c40, kt_c7, kt_c5, kt_c6, kt_c512, kt_c10, kt_c10000] at d_8
      refine lv_iconst (v := (-1)) hx hb dX7_tally_23 (by decide) ?_
      exact kt_ri () hx hb hr hlk hS dX7_tally_24 hP hD (by show ((-1 : Int32).toInt = -1 ∧ ¬ (¬ sv.toInt = 0 ∧ 0 ≤ p1.toInt ∧ p1.toInt < 3 ∧ (p2.toInt = 0 ∨ p2.toInt = 1))) ∨ ((¬ sv.toInt = 0 ∧ 0 ≤ p1.toInt ∧ p1.toInt < 3 ∧ (p2.toInt = 0 ∨ p2.toInt = 1)) ∧ (-1 : Int32) = ta (2 * p1.toInt.toNat + p2.toInt.toNat)); first | exact Or.inl ⟨by decide, fun h => by omega⟩ | exact Or.inl ⟨by decide, fun h => (hw_17.f c_20) h.2.2.2⟩ | exact Or.inr ⟨⟨by omega, by omega, by omega, hq1⟩, by rw [ea_34, show t_33.toNatClampNeg = 2 * p1.toInt.toNat + p2.toInt.toNat from (by show t_33.toInt.toNat = _; omega)]⟩)
    · have d_8 := c_8
      simp only [kt_lt, kt_le, kt_eq, kt_c0, kt_c1, kt_c2, kt_c3, kt_c4, kt_c8, kt_c9, kt_cm1, kt_c81, kt_c40, kt_c7, kt_c5, kt_c6, kt_c512, kt_c10, kt_c10000] at d_8
      refine lv_iload_n hx hb dX7_tally_11 rfl (lv_at hl 1 rfl) ?_
      refine lv_iconst (v := 3) hx hb dX7_tally_12 (by decide) ?_
      refine lv_icmp_ge (tgt := 23) hx hb dX7_tally_13 (by decide) (fun c_13 => ?_) (fun c_13 => ?_)
      · have d_13 := c_13
        simp only [kt_lt, kt_le, kt_eq, kt_c0, kt_c1, kt_c2, kt_c3, kt_c4, kt_c8, kt_c9, kt_cm1, kt_c81, kt_c40, kt_c7, kt_c5, kt_c6, kt_c512, kt_c10, kt_c10000] at d_13
        refine lv_iconst (v := (-1)) hx hb dX7_tally_23 (by decide) ?_
        exact kt_ri () hx hb hr hlk hS dX7_tally_24 hP hD (by show ((-1 : Int32).toInt = -1 ∧ ¬ (¬ sv.toInt = 0 ∧ 0 ≤ p1.toInt ∧ p1.toInt < 3 ∧ (p2.toInt = 0 ∨ p2.toInt = 1))) ∨ ((¬ sv.toInt = 0 ∧ 0 ≤ p1.toInt ∧ p1.toInt < 3 ∧ (p2.toInt = 0 ∨ p2.toInt = 1)) ∧ (-1 : Int32) = ta (2 * p1.toInt.toNat + p2.toInt.toNat)); first | exact Or.inl ⟨by decide, fun h => by omega⟩ | exact Or.inl ⟨by decide, fun h => (hw_17.f c_20) h.2.2.2⟩ | exact Or.inr ⟨⟨by omega, by omega, by omega, hq1⟩, by rw [ea_34, show t_33.toNatClampNeg = 2 * p1.toInt.toNat + p2.toInt.toNat from (by show t_33.toInt.toNat = _; omega)]⟩)
      · have d_13 := c_13
        simp only [kt_lt, kt_le, kt_eq, kt_c0, kt_c1, kt_c2, kt_c3, kt_c4, kt_c8, kt_c9, kt_cm1, kt_c81, kt_c40, kt_c7, kt_c5, kt_c6, kt_c512, kt_c10, kt_c10000] at d_13
        refine lv_iload_n hx hb dX7_tally_16 rfl (lv_at hl 2 rfl) ?_
        refine kt_pi (wc := []) [] hP hD hS hA rfl (by decide) (fun hPc hDc => va_runSN (As := [.int p2]) (rest := []) ⟨hx, hb, hml, hown, hts⟩ (c_X10_isSide l D cI cZ cB H.size p2 ) ⟨va_cnB 1 hts gX7_tally_X10_isSide_n213 rfl rfl rfl (hN (.methodLinkNest "KingTable$Solver" 213 yX10_isSide "KingTable") (by decide +kernel)) (hts (.initialized RX10) (List.mem_cons_of_mem _ (List.mem_append_left _ (List.mem_cons_of_mem _ (List.mem_cons_of_mem _ (List.mem_cons_of_mem _ (List.Mem.head _))))))) (by decide +kernel) ⟨Nat.le_of_ble_eq_true rfl, Nat.le_of_ble_eq_true rfl⟩, (hts (.static yX10_isSide) (List.mem_cons_of_mem _ (List.mem_append_left _ (List.mem_cons_of_mem _ (List.mem_cons_of_mem _ (List.Mem.head _)))))), trivial⟩ (kt_preS hN hK hPc hDc) rfl rfl hl.1 rfl (lv_room (Nat.le_of_ble_eq_true rfl)) dX7_tally_17 ⟨Nat.le_of_ble_eq_true rfl, Nat.le_of_ble_eq_true rfl⟩) (fun r_17 _ H locs hw_17 hP hS => ?_)
        refine lv_if_ne (tgt := 25) hx hb dX7_tally_20 (by decide) (fun c_20 => ?_) (fun c_20 => ?_)
        · have d_20 := c_20
          simp only [kt_lt, kt_le, kt_eq, kt_c0, kt_c1, kt_c2, kt_c3, kt_c4, kt_c8, kt_c9, kt_cm1, kt_c81, kt_c40, kt_c7, kt_c5, kt_c6, kt_c512, kt_c10, kt_c10000] at d_20
          have hq1 := hw_17.t c_20
          refine lv_aload_n hx hb dX7_tally_25 rfl (lv_at hl 0 rfl) ?_
          refine va_get (D := D) (ci := 7) (C := RX7) (T := TX7) (N := 15) hx hb hts iw_X7_tally_X7 hown hK hP 0 rfl rfl 5 (by decide) (hts (.fieldLink RX7 32 "KingTable$Solver" "tallies" "[I") (List.mem_cons_of_mem _ (List.mem_append_left _ (List.mem_cons_of_mem _ (List.Mem.head _))))) (fun _ h9 => h9) rfl dX7_tally_26 ?_
          refine lv_iload_n hx hb dX7_tally_29 rfl (lv_at hl 1 rfl) ?_
          refine lv_iconst (v := 2) hx hb dX7_tally_30 (by decide) ?_
          refine lv_imul hx hb dX7_tally_31 ?_
          refine lv_topi (fun t_31 et_31 => ?_)
          obtain ⟨k_31, hk_31, hm_31, hM_31⟩ := kt_mulk (C := 2) et_31 (by decide)
          try simp only [kt_c0, kt_c1, kt_c2, kt_c3, kt_c4, kt_c8, kt_c9, kt_cm1, kt_c81, kt_c40, kt_c7, kt_c5, kt_c6, kt_c512, kt_c10, kt_c10000] at hk_31
          refine lv_iload_n hx hb dX7_tally_32 rfl (lv_at hl 2 rfl) ?_
          refine lv_iadd hx hb dX7_tally_33 ?_
          refine lv_topi (fun t_33 et_33 => ?_)
          first | have hk_33 := kt_addx et_33 (by first | omega | (simp only [kt_c0, kt_c1, kt_c2, kt_c3, kt_c4, kt_c8, kt_c9, kt_cm1, kt_c81, kt_c40, kt_c7, kt_c5, kt_c6, kt_c512, kt_c10, kt_c10000]; omega)) (by first | omega | (simp only [kt_c0, kt_c1, kt_c2, kt_c3, kt_c4, kt_c8, kt_c9, kt_cm1, kt_c81, kt_c40, kt_c7, kt_c5, kt_c6, kt_c512, kt_c10, kt_c10000]; omega)) | obtain ⟨k_33, hk_33, hm_33, hM_33⟩ := kt_addk et_33
          have hi_1 : vp_in t_33 6 := by exact kt_in (by omega) (by omega)
          refine va_iald hx hb hK hP 1 0 rfl rfl hi_1 dX7_tally_34 ?_
          refine lv_topi (fun a_34 ea_34 => ?_)
          exact kt_ri () hx hb hr hlk hS dX7_tally_35 hP hD (by show (a_34.toInt = -1 ∧ ¬ (¬ sv.toInt = 0 ∧ 0 ≤ p1.toInt ∧ p1.toInt < 3 ∧ (p2.toInt = 0 ∨ p2.toInt = 1))) ∨ ((¬ sv.toInt = 0 ∧ 0 ≤ p1.toInt ∧ p1.toInt < 3 ∧ (p2.toInt = 0 ∨ p2.toInt = 1)) ∧ a_34 = ta (2 * p1.toInt.toNat + p2.toInt.toNat)); first | exact Or.inl ⟨by decide, fun h => by omega⟩ | exact Or.inl ⟨by decide, fun h => (hw_17.f c_20) h.2.2.2⟩ | exact Or.inr ⟨⟨by omega, by omega, by omega, hq1⟩, by rw [ea_34, show t_33.toNatClampNeg = 2 * p1.toInt.toNat + p2.toInt.toNat from (by show t_33.toInt.toNat = _; omega)]⟩)
        · have d_20 := c_20
          simp only [kt_lt, kt_le, kt_eq, kt_c0, kt_c1, kt_c2, kt_c3, kt_c4, kt_c8, kt_c9, kt_cm1, kt_c81, kt_c40, kt_c7, kt_c5, kt_c6, kt_c512, kt_c10, kt_c10000] at d_20
          refine lv_iconst (v := (-1)) hx hb dX7_tally_23 (by decide) ?_
          exact kt_ri () hx hb hr hlk hS dX7_tally_24 hP hD (by show ((-1 : Int32).toInt = -1 ∧ ¬ (¬ sv.toInt = 0 ∧ 0 ≤ p1.toInt ∧ p1.toInt < 3 ∧ (p2.toInt = 0 ∨ p2.toInt = 1))) ∨ ((¬ sv.toInt = 0 ∧ 0 ≤ p1.toInt ∧ p1.toInt < 3 ∧ (p2.toInt = 0 ∨ p2.toInt = 1)) ∧ (-1 : Int32) = ta (2 * p1.toInt.toNat + p2.toInt.toNat)); first | exact Or.inl ⟨by decide, fun h => by omega⟩ | exact Or.inl ⟨by decide, fun h => (hw_17.f c_20) h.2.2.2⟩ | exact Or.inr ⟨⟨by omega, by omega, by omega, hq1⟩, by rw [ea_34, show t_33.toNatClampNeg = 2 * p1.toInt.toNat + p2.toInt.toNat from (by show t_33.toInt.toNat = _; omega)]⟩)

set_option maxHeartbeats 4000000 in
set_option maxRecDepth 100000 in
theorem c_X7_greatestDeepX (l : Launch) (D : va_G) (cI cZ cB : ClassId) (sz : Nat) (so : Nat) (ru : Nat) (tr : Nat) (lk : Nat) (vp : Nat) (vd : Nat) (vt : Nat) (vg : Nat) (vw : Nat) (ve : Nat) (vo : Nat) (vq : Nat) (qd : Int32) (pp : Int32) (ct : Int32) (sv : Int32) (ga : Nat → Int32) (p1 : Int32) : kt_Mi l yX7_greatestDeep wsX7_greatestDeep { frames := 1, cells := 0, slots := 0, locals := 20 } D (kt_ty cI cZ cB) [.ref so, .int p1] sz [(so, .inr (7, [.ref ru, .ref tr, .ref lk, .ref vp, .ref vd, .ref vt, .ref vg, .ref vw, .ref ve, .ref vo, .ref vq, .int qd, .int pp, .int ct, .int sv])), (vg, .inl (cI, 2, .inl ga))] (fun (r : Int32) (u : Unit) => (r.toInt = -1 ∧ ¬ (¬ sv.toInt = 0 ∧ (p1.toInt = 0 ∨ p1.toInt = 1))) ∨ ((¬ sv.toInt = 0 ∧ (p1.toInt = 0 ∨ p1.toInt = 1)) ∧ r = ga p1.toInt.toNat)) (fun (u : Unit) => [(so, .inr (7, [.ref ru, .ref tr, .ref lk, .ref vp, .ref vd, .ref vt, .ref vg, .ref vw, .ref ve, .ref vo, .ref vq, .int qd, .int pp, .int ct, .int sv])), (vg, .inl (cI, 2, .inl ga))]) 0 0 := by
  refine kt_Mi.of (cc := cX7_greatestDeep) (maxL := 2) (ret := some .int) (by decide) rfl (Nat.le_of_ble_eq_true rfl) ?_
  intro p e s m below meth c A ls H hAt hP hD hS hl
  obtain ⟨hx, hb, hr, hml, hown, hts, hN, hK, hlk, hnm, hA⟩ := hAt
  have hl : lv_has ls 2 [(0, .ref so), (1, .int p1)] := hl
  have hown : s.vm.findClass RX7 = some m.cls := hown
  refine lv_aload_n hx hb dX7_greatestDeep_0 rfl (lv_at hl 0 rfl) ?_
  refine va_get (D := D) (ci := 7) (C := RX7) (T := TX7) (N := 15) hx hb hts iw_X7_greatestDeep_X7 hown hK hP 0 rfl rfl 14 (by decide) (hts (.fieldLink RX7 54 "KingTable$Solver" "solved" "Z") (List.mem_cons_of_mem _ (List.mem_append_left _ (List.Mem.head _)))) (fun _ h9 => h9) rfl dX7_greatestDeep_1 ?_
  refine lv_if_eq (tgt := 23) hx hb dX7_greatestDeep_4 (by decide) (fun c_4 => ?_) (fun c_4 => ?_)
  · have d_4 := c_4
    simp only [kt_lt, kt_le, kt_eq, kt_c0, kt_c1, kt_c2, kt_c3, kt_c4, kt_c8, kt_c9, kt_cm1, kt_c81, kt_c40, kt_c7, kt_c5, kt_c6, kt_c512, kt_c10, kt_c10000] at d_4
    refine lv_iconst (v := (-1)) hx hb dX7_greatestDeep_23 (by decide) ?_
    exact kt_ri () hx hb hr hlk hS dX7_greatestDeep_24 hP hD (by show ((-1 : Int32).toInt = -1 ∧ ¬ (¬ sv.toInt = 0 ∧ (p1.toInt = 0 ∨ p1.toInt = 1))) ∨ ((¬ sv.toInt = 0 ∧ (p1.toInt = 0 ∨ p1.toInt = 1)) ∧ (-1 : Int32) = ga p1.toInt.toNat); first | exact Or.inl ⟨by decide, fun h => by omega⟩ | exact Or.inl ⟨by decide, fun h => (hw_8.f c_11) h.2⟩ | exact Or.inr ⟨⟨by omega, hq1⟩, ea_19⟩)
  · have d_4 := c_4
    simp only [kt_lt, kt_le, kt_eq, kt_c0, kt_c1, kt_c2, kt_c3, kt_c4, kt_c8, kt_c9, kt_cm1, kt_c81, kt_c40, kt_c7, kt_c5, kt_c6, kt_c512, kt_c10, kt_c10000] at d_4
    refine lv_iload_n hx hb dX7_greatestDeep_7 rfl (lv_at hl 1 rfl) ?_
    refine kt_pi (wc := []) [] hP hD hS hA rfl (by decide) (fun hPc hDc => va_runSN (As := [.int p1]) (rest := []) ⟨hx, hb, hml, hown, hts⟩ (c_X10_isSide l D cI cZ cB H.size p1 ) ⟨va_cnB 1 hts gX7_greatestDeep_X10_isSide_n213 rfl rfl rfl (hN (.methodLinkNest "KingTable$Solver" 213 yX10_isSide "KingTable") (by decide +kernel)) (hts (.initialized RX10) (List.mem_cons_of_mem _ (List.mem_append_left _ (List.mem_cons_of_mem _ (List.mem_cons_of_mem _ (List.mem_cons_of_mem _ (List.Mem.head _))))))) (by decide +kernel) ⟨Nat.le_of_ble_eq_true rfl, Nat.le_of_ble_eq_true rfl⟩, (hts (.static yX10_isSide) (List.mem_cons_of_mem _ (List.mem_append_left _ (List.mem_cons_of_mem _ (List.mem_cons_of_mem _ (List.Mem.head _)))))), trivial⟩ (kt_preS hN hK hPc hDc) rfl rfl hl.1 rfl (lv_room (Nat.le_of_ble_eq_true rfl)) dX7_greatestDeep_8 ⟨Nat.le_of_ble_eq_true rfl, Nat.le_of_ble_eq_true rfl⟩) (fun r_8 _ H locs hw_8 hP hS => ?_)
    refine lv_if_eq (tgt := 23) hx hb dX7_greatestDeep_11 (by decide) (fun c_11 => ?_) (fun c_11 => ?_)
    · have d_11 := c_11
      simp only [kt_lt, kt_le, kt_eq, kt_c0, kt_c1, kt_c2, kt_c3, kt_c4, kt_c8, kt_c9, kt_cm1, kt_c81, kt_c40, kt_c7, kt_c5, kt_c6, kt_c512, kt_c10, kt_c10000] at d_11
      refine lv_iconst (v := (-1)) hx hb dX7_greatestDeep_23 (by decide) ?_
      exact kt_ri () hx hb hr hlk hS dX7_greatestDeep_24 hP hD (by show ((-1 : Int32).toInt = -1 ∧ ¬ (¬ sv.toInt = 0 ∧ (p1.toInt = 0 ∨ p1.toInt = 1))) ∨ ((¬ sv.toInt = 0 ∧ (p1.toInt = 0 ∨ p1.toInt = 1)) ∧ (-1 : Int32) = ga p1.toInt.toNat); first | exact Or.inl ⟨by decide, fun h => by omega⟩ | exact Or.inl ⟨by decide, fun h => (hw_8.f c_11) h.2⟩ | exact Or.inr ⟨⟨by omega, hq1⟩, ea_19⟩)
    · have d_11 := c_11
      simp only [kt_lt, kt_le, kt_eq, kt_c0, kt_c1, kt_c2, kt_c3, kt_c4, kt_c8, kt_c9, kt_cm1, kt_c81, kt_c40, kt_c7, kt_c5, kt_c6, kt_c512, kt_c10, kt_c10000] at d_11
      have hq1 := hw_8.t c_11
      refine lv_aload_n hx hb dX7_greatestDeep_14 rfl (lv_at hl 0 rfl) ?_
      refine va_get (D := D) (ci := 7) (C := RX7) (T := TX7) (N := 15) hx hb hts iw_X7_greatestDeep_X7 hown hK hP 0 rfl rfl 6 (by decide) (hts (.fieldLink RX7 35 "KingTable$Solver" "greatest" "[I") (List.mem_cons_of_mem _ (List.mem_append_left _ (List.mem_cons_of_mem _ (List.Mem.head _))))) (fun _ h9 => h9) rfl dX7_greatestDeep_15 ?_
      refine lv_iload_n hx hb dX7_greatestDeep_18 rfl (lv_at hl 1 rfl) ?_
      have hi_1 : vp_in p1 2 := by exact kt_in (by omega) (by omega)
      refine va_iald hx hb hK hP 1 0 rfl rfl hi_1 dX7_greatestDeep_19 ?_
      refine lv_topi (fun a_19 ea_19 => ?_)
      refine lv_goto (tgt := 24) hx hb dX7_greatestDeep_20 (by decide) ?_
      exact kt_ri () hx hb hr hlk hS dX7_greatestDeep_24 hP hD (by show (a_19.toInt = -1 ∧ ¬ (¬ sv.toInt = 0 ∧ (p1.toInt = 0 ∨ p1.toInt = 1))) ∨ ((¬ sv.toInt = 0 ∧ (p1.toInt = 0 ∨ p1.toInt = 1)) ∧ a_19 = ga p1.toInt.toNat); first | exact Or.inl ⟨by decide, fun h => by omega⟩ | exact Or.inl ⟨by decide, fun h => (hw_8.f c_11) h.2⟩ | exact Or.inr ⟨⟨by omega, hq1⟩, ea_19⟩)

set_option maxHeartbeats 4000000 in
set_option maxRecDepth 100000 in
theorem c_X7_worthAtX (l : Launch) (D : va_G) (cI cZ cB : ClassId) (sz : Nat) (so : Nat) (ru : Nat) (tr : Nat) (lk : Nat) (vp : Nat) (vd : Nat) (vt : Nat) (vg : Nat) (vw : Nat) (ve : Nat) (vo : Nat) (vq : Nat) (qd : Int32) (pp : Int32) (ct : Int32) (sv : Int32) (LW : Nat) (LH : Nat) (LS : Nat) (LQ : Nat) (wo : Nat → Int32) (p1 : Int32) (p2 : Int32) (hlw : LW ≤ 10000) (hlh : LH ≤ 10000) (hls : LS ≤ 4000000) (hlq : LQ ≤ LW ∧ LQ ≤ LH) (hpp : 0 ≤ pp.toInt ∧ 2 * pp.toInt ≤ (LQ : Int)) : kt_Mi l yX7_worthAt wsX7_worthAt { frames := 1, cells := 0, slots := 0, locals := 20 } D (kt_ty cI cZ cB) [.ref so, .int p1, .int p2] sz [(so, .inr (7, [.ref ru, .ref tr, .ref lk, .ref vp, .ref vd, .ref vt, .ref vg, .ref vw, .ref ve, .ref vo, .ref vq, .int qd, .int pp, .int ct, .int sv])), (vw, .inl (cI, LW, .inl wo))] (fun (r : Int32) (u : Unit) => (r.toInt = -1 ∧ ¬ (¬ sv.toInt = 0 ∧ (p2.toInt = 0 ∨ p2.toInt = 1) ∧ 0 ≤ p1.toInt ∧ p1.toInt < pp.toInt)) ∨ ((¬ sv.toInt = 0 ∧ (p2.toInt = 0 ∨ p2.toInt = 1) ∧ 0 ≤ p1.toInt ∧ p1.toInt < pp.toInt) ∧ r = wo (2 * p1.toInt.toNat + p2.toInt.toNat))) (fun (u : Unit) => [(so, .inr (7, [.ref ru, .ref tr, .ref lk, .ref vp, .ref vd, .ref vt, .ref vg, .ref vw, .ref ve, .ref vo, .ref vq, .int qd, .int pp, .int ct, .int sv])), (vw, .inl (cI, LW, .inl wo))]) 0 0 := by
  refine kt_Mi.of (cc := cX7_worthAt) (maxL := 4) (ret := some .int) (by decide) rfl (Nat.le_of_ble_eq_true rfl) ?_
  intro p e s m below meth c A ls H hAt hP hD hS hl
  obtain ⟨hx, hb, hr, hml, hown, hts, hN, hK, hlk, hnm, hA⟩ := hAt
  have hl : lv_has ls 4 [(0, .ref so), (1, .int p1), (2, .int p2)] := hl
  have hown : s.vm.findClass RX7 = some m.cls := hown
  refine lv_aload_n hx hb dX7_worthAt_0 rfl (lv_at hl 0 rfl) ?_
  refine va_get (D := D) (ci := 7) (C := RX7) (T := TX7) (N := 15) hx hb hts iw_X7_worthAt_X7 hown hK hP 0 rfl rfl 14 (by decide) (hts (.fieldLink RX7 54 "KingTable$Solver" "solved" "Z") (List.mem_cons_of_mem _ (List.mem_append_left _ (List.Mem.head _)))) (fun _ h9 => h9) rfl dX7_worthAt_1 ?_
  refine lv_if_eq (tgt := 30) hx hb dX7_worthAt_4 (by decide) (fun c_4 => ?_) (fun c_4 => ?_)
  · have d_4 := c_4
    simp only [kt_lt, kt_le, kt_eq, kt_c0, kt_c1, kt_c2, kt_c3, kt_c4, kt_c8, kt_c9, kt_cm1, kt_c81, kt_c40, kt_c7, kt_c5, kt_c6, kt_c512, kt_c10, kt_c10000] at d_4
    refine lv_iconst (v := 0) hx hb dX7_worthAt_30 (by decide) ?_
    refine lv_istore_n (lv' := [(3, .int 0), (0, .ref so), (1, .int p1), (2, .int p2)]) hx hb dX7_worthAt_31 rfl hl (by decide) rfl (fun ls hl => ?_)
    refine lv_iload_n hx hb dX7_worthAt_32 rfl (lv_at hl 0 rfl) ?_
    refine lv_if_eq (tgt := 49) hx hb dX7_worthAt_33 (by decide) (fun c_33 => ?_) (fun c_33 => absurd c_33 (by decide))
    refine lv_iconst (v := (-1)) hx hb dX7_worthAt_49 (by decide) ?_
    exact kt_ri () hx hb hr hlk hS dX7_worthAt_50 hP hD (by show ((-1 : Int32).toInt = -1 ∧ ¬ (¬ sv.toInt = 0 ∧ (p2.toInt = 0 ∨ p2.toInt = 1) ∧ 0 ≤ p1.toInt ∧ p1.toInt < pp.toInt)) ∨ ((¬ sv.toInt = 0 ∧ (p2.toInt = 0 ∨ p2.toInt = 1) ∧ 0 ≤ p1.toInt ∧ p1.toInt < pp.toInt) ∧ (-1 : Int32) = wo (2 * p1.toInt.toNat + p2.toInt.toNat)); first | exact Or.inl ⟨by decide, fun h => by omega⟩ | exact Or.inl ⟨by decide, fun h => (hw_8.f c_11) h.2.1⟩ | exact Or.inr ⟨⟨by omega, hq1, by omega, by omega⟩, by rw [ea_45, show t_44.toNatClampNeg = 2 * p1.toInt.toNat + p2.toInt.toNat from (by show t_44.toInt.toNat = _; omega)]⟩)
  · have d_4 := c_4
    simp only [kt_lt, kt_le, kt_eq, kt_c0, kt_c1, kt_c2, kt_c3, kt_c4, kt_c8, kt_c9, kt_cm1, kt_c81, kt_c40, kt_c7, kt_c5, kt_c6, kt_c512, kt_c10, kt_c10000] at d_4
    refine lv_iload_n hx hb dX7_worthAt_7 rfl (lv_at hl 2 rfl) ?_
    refine kt_pi (wc := []) [] hP hD hS hA rfl (by decide) (fun hPc hDc => va_runSN (As := [.int p2]) (rest := []) ⟨hx, hb, hml, hown, hts⟩ (c_X10_isSide l D cI cZ cB H.size p2 ) ⟨va_cnB 1 hts gX7_worthAt_X10_isSide_n213 rfl rfl rfl (hN (.methodLinkNest "KingTable$Solver" 213 yX10_isSide "KingTable") (by decide +kernel)) (hts (.initialized RX10) (List.mem_cons_of_mem _ (List.mem_append_left _ (List.mem_cons_of_mem _ (List.mem_cons_of_mem _ (List.mem_cons_of_mem _ (List.mem_cons_of_mem _ (List.Mem.head _)))))))) (by decide +kernel) ⟨Nat.le_of_ble_eq_true rfl, Nat.le_of_ble_eq_true rfl⟩, (hts (.static yX10_isSide) (List.mem_cons_of_mem _ (List.mem_append_left _ (List.mem_cons_of_mem _ (List.mem_cons_of_mem _ (List.mem_cons_of_mem _ (List.Mem.head _))))))), trivial⟩ (kt_preS hN hK hPc hDc) rfl rfl hl.1 rfl (lv_room (Nat.le_of_ble_eq_true rfl)) dX7_worthAt_8 ⟨Nat.le_of_ble_eq_true rfl, Nat.le_of_ble_eq_true rfl⟩) (fun r_8 _ H locs hw_8 hP hS => ?_)
    refine lv_if_eq (tgt := 30) hx hb dX7_worthAt_11 (by decide) (fun c_11 => ?_) (fun c_11 => ?_)
    · have d_11 := c_11
      simp only [kt_lt, kt_le, kt_eq, kt_c0, kt_c1, kt_c2, kt_c3, kt_c4, kt_c8, kt_c9, kt_cm1, kt_c81, kt_c40, kt_c7, kt_c5, kt_c6, kt_c512, kt_c10, kt_c10000] at d_11
      refine lv_iconst (v := 0) hx hb dX7_worthAt_30 (by decide) ?_
      refine lv_istore_n (lv' := [(3, .int 0), (0, .ref so), (1, .int p1), (2, .int p2)]) hx hb dX7_worthAt_31 rfl hl (by decide) rfl (fun ls hl => ?_)
      refine lv_iload_n hx hb dX7_worthAt_32 rfl (lv_at hl 0 rfl) ?_
      refine lv_if_eq (tgt := 49) hx hb dX7_worthAt_33 (by decide) (fun c_33 => ?_) (fun c_33 => absurd c_33 (by decide))
      refine lv_iconst (v := (-1)) hx hb dX7_worthAt_49 (by decide) ?_
      exact kt_ri () hx hb hr hlk hS dX7_worthAt_50 hP hD (by show ((-1 : Int32).toInt = -1 ∧ ¬ (¬ sv.toInt = 0 ∧ (p2.toInt = 0 ∨ p2.toInt = 1) ∧ 0 ≤ p1.toInt ∧ p1.toInt < pp.toInt)) ∨ ((¬ sv.toInt = 0 ∧ (p2.toInt = 0 ∨ p2.toInt = 1) ∧ 0 ≤ p1.toInt ∧ p1.toInt < pp.toInt) ∧ (-1 : Int32) = wo (2 * p1.toInt.toNat + p2.toInt.toNat)); first | exact Or.inl ⟨by decide, fun h => by omega⟩ | exact Or.inl ⟨by decide, fun h => (hw_8.f c_11) h.2.1⟩ | exact Or.inr ⟨⟨by omega, hq1, by omega, by omega⟩, by rw [ea_45, show t_44.toNatClampNeg = 2 * p1.toInt.toNat + p2.toInt.toNat from (by show t_44.toInt.toNat = _; omega)]⟩)
    · have d_11 := c_11
      simp only [kt_lt, kt_le, kt_eq, kt_c0, kt_c1, kt_c2, kt_c3, kt_c4, kt_c8, kt_c9, kt_cm1, kt_c81, kt_c40, kt_c7, kt_c5, kt_c6, kt_c512, kt_c10, kt_c10000] at d_11
      have hq1 := hw_8.t c_11
      refine lv_iload_n hx hb dX7_worthAt_14 rfl (lv_at hl 1 rfl) ?_
      refine lv_if_lt (tgt := 30) hx hb dX7_worthAt_15 (by decide) (fun c_15 => ?_) (fun c_15 => ?_)
      · have d_15 := c_15
        simp only [kt_lt, kt_le, kt_eq, kt_c0, kt_c1, kt_c2, kt_c3, kt_c4, kt_c8, kt_c9, kt_cm1, kt_c81, kt_c40, kt_c7, kt_c5, kt_c6, kt_c512, kt_c10, kt_c10000] at d_15
        refine lv_iconst (v := 0) hx hb dX7_worthAt_30 (by decide) ?_
        refine lv_istore_n (lv' := [(3, .int 0), (0, .ref so), (1, .int p1), (2, .int p2)]) hx hb dX7_worthAt_31 rfl hl (by decide) rfl (fun ls hl => ?_)
        refine lv_iload_n hx hb dX7_worthAt_32 rfl (lv_at hl 0 rfl) ?_
        refine lv_if_eq (tgt := 49) hx hb dX7_worthAt_33 (by decide) (fun c_33 => ?_) (fun c_33 => absurd c_33 (by decide))
        refine lv_iconst (v := (-1)) hx hb dX7_worthAt_49 (by decide) ?_
        exact kt_ri () hx hb hr hlk hS dX7_worthAt_50 hP hD (by show ((-1 : Int32).toInt = -1 ∧ ¬ (¬ sv.toInt = 0 ∧ (p2.toInt = 0 ∨ p2.toInt = 1) ∧ 0 ≤ p1.toInt ∧ p1.toInt < pp.toInt)) ∨ ((¬ sv.toInt = 0 ∧ (p2.toInt = 0 ∨ p2.toInt = 1) ∧ 0 ≤ p1.toInt ∧ p1.toInt < pp.toInt) ∧ (-1 : Int32) = wo (2 * p1.toInt.toNat + p2.toInt.toNat)); first | exact Or.inl ⟨by decide, fun h => by omega⟩ | exact Or.inl ⟨by decide, fun h => (hw_8.f c_11) h.2.1⟩ | exact Or.inr ⟨⟨by omega, hq1, by omega, by omega⟩, by rw [ea_45, show t_44.toNatClampNeg = 2 * p1.toInt.toNat + p2.toInt.toNat from (by show t_44.toInt.toNat = _; omega)]⟩)
      · have d_15 := c_15
        simp only [kt_lt, kt_le, kt_eq, kt_c0, kt_c1, kt_c2, kt_c3, kt_c4, kt_c8, kt_c9, kt_cm1, kt_c81, kt_c40, kt_c7, kt_c5, kt_c6, kt_c512, kt_c10, kt_c10000] at d_15
        refine lv_iload_n hx hb dX7_worthAt_18 rfl (lv_at hl 1 rfl) ?_
        refine lv_aload_n hx hb dX7_worthAt_19 rfl (lv_at hl 0 rfl) ?_
        refine va_get (D := D) (ci := 7) (C := RX7) (T := TX7) (N := 15) hx hb hts iw_X7_worthAt_X7 hown hK hP 0 rfl rfl 12 (by decide) (hts (.fieldLink RX7 66 "KingTable$Solver" "places" "I") (List.mem_cons_of_mem _ (List.mem_append_left _ (List.mem_cons_of_mem _ (List.Mem.head _))))) (fun _ h9 => h9) rfl dX7_worthAt_20 ?_
        refine lv_icmp_ge (tgt := 30) hx hb dX7_worthAt_23 (by decide) (fun c_23 => ?_) (fun c_23 => ?_)
        · have d_23 := c_23
          simp only [kt_lt, kt_le, kt_eq, kt_c0, kt_c1, kt_c2, kt_c3, kt_c4, kt_c8, kt_c9, kt_cm1, kt_c81, kt_c40, kt_c7, kt_c5, kt_c6, kt_c512, kt_c10, kt_c10000] at d_23
          refine lv_iconst (v := 0) hx hb dX7_worthAt_30 (by decide) ?_
          refine lv_istore_n (lv' := [(3, .int 0), (0, .ref so), (1, .int p1), (2, .int p2)]) hx hb dX7_worthAt_31 rfl hl (by decide) rfl (fun ls hl => ?_)
          refine lv_iload_n hx hb dX7_worthAt_32 rfl (lv_at hl 0 rfl) ?_
          refine lv_if_eq (tgt := 49) hx hb dX7_worthAt_33 (by decide) (fun c_33 => ?_) (fun c_33 => absurd c_33 (by decide))
          refine lv_iconst (v := (-1)) hx hb dX7_worthAt_49 (by decide) ?_
          exact kt_ri () hx hb hr hlk hS dX7_worthAt_50 hP hD (by show ((-1 : Int32).toInt = -1 ∧ ¬ (¬ sv.toInt = 0 ∧ (p2.toInt = 0 ∨ p2.toInt = 1) ∧ 0 ≤ p1.toInt ∧ p1.toInt < pp.toInt)) ∨ ((¬ sv.toInt = 0 ∧ (p2.toInt = 0 ∨ p2.toInt = 1) ∧ 0 ≤ p1.toInt ∧ p1.toInt < pp.toInt) ∧ (-1 : Int32) = wo (2 * p1.toInt.toNat + p2.toInt.toNat)); first | exact Or.inl ⟨by decide, fun h => by omega⟩ | exact Or.inl ⟨by decide, fun h => (hw_8.f c_11) h.2.1⟩ | exact Or.inr ⟨⟨by omega, hq1, by omega, by omega⟩, by rw [ea_45, show t_44.toNatClampNeg = 2 * p1.toInt.toNat + p2.toInt.toNat from (by show t_44.toInt.toNat = _; omega)]⟩)
        · have d_23 := c_23
          simp only [kt_lt, kt_le, kt_eq, kt_c0, kt_c1, kt_c2, kt_c3, kt_c4, kt_c8, kt_c9, kt_cm1, kt_c81, kt_c40, kt_c7, kt_c5, kt_c6, kt_c512, kt_c10, kt_c10000] at d_23
          refine lv_iconst (v := 1) hx hb dX7_worthAt_26 (by decide) ?_
          refine lv_goto (tgt := 31) hx hb dX7_worthAt_27 (by decide) ?_
          refine lv_istore_n (lv' := [(3, .int 1), (0, .ref so), (1, .int p1), (2, .int p2)]) hx hb dX7_worthAt_31 rfl hl (by decide) rfl (fun ls hl => ?_)
          refine lv_iload_n hx hb dX7_worthAt_32 rfl (lv_at hl 0 rfl) ?_
          refine lv_if_eq (tgt := 49) hx hb dX7_worthAt_33 (by decide) (fun c_33 => absurd c_33 (by decide)) (fun c_33 => ?_)
          refine lv_aload_n hx hb dX7_worthAt_36 rfl (lv_at hl 1 rfl) ?_
          refine va_get (D := D) (ci := 7) (C := RX7) (T := TX7) (N := 15) hx hb hts iw_X7_worthAt_X7 hown hK hP 0 rfl rfl 7 (by decide) (hts (.fieldLink RX7 38 "KingTable$Solver" "worths" "[I") (List.mem_cons_of_mem _ (List.mem_append_left _ (List.mem_cons_of_mem _ (List.mem_cons_of_mem _ (List.Mem.head _)))))) (fun _ h9 => h9) rfl dX7_worthAt_37 ?_
          refine lv_iconst (v := 2) hx hb dX7_worthAt_40 (by decide) ?_
          refine lv_iload_n hx hb dX7_worthAt_41 rfl (lv_at hl 2 rfl) ?_
          refine lv_imul hx hb dX7_worthAt_42 ?_
          refine lv_topi (fun t_42 et_42 => ?_)
          obtain ⟨k_42, hk_42, hm_42, hM_42⟩ := kt_mulk (C := 2) (et_42.trans (Int32.mul_comm _ _)) (by decide)
          try simp only [kt_c0, kt_c1, kt_c2, kt_c3, kt_c4, kt_c8, kt_c9, kt_cm1, kt_c81, kt_c40, kt_c7, kt_c5, kt_c6, kt_c512, kt_c10, kt_c10000] at hk_42
          refine lv_iload_n hx hb dX7_worthAt_43 rfl (lv_at hl 3 rfl) ?_
          refine lv_iadd hx hb dX7_worthAt_44 ?_
          refine lv_topi (fun t_44 et_44 => ?_)
          first | have hk_44 := kt_addx et_44 (by first | omega | (simp only [kt_c0, kt_c1, kt_c2, kt_c3, kt_c4, kt_c8, kt_c9, kt_cm1, kt_c81, kt_c40, kt_c7, kt_c5, kt_c6, kt_c512, kt_c10, kt_c10000]; omega)) (by first | omega | (simp only [kt_c0, kt_c1, kt_c2, kt_c3, kt_c4, kt_c8, kt_c9, kt_cm1, kt_c81, kt_c40, kt_c7, kt_c5, kt_c6, kt_c512, kt_c10, kt_c10000]; omega)) | obtain ⟨k_44, hk_44, hm_44, hM_44⟩ := kt_addk et_44
          have hi_1 : vp_in t_44 LW := by exact kt_in (by omega) (by omega)
          refine va_iald hx hb hK hP 1 0 rfl rfl hi_1 dX7_worthAt_45 ?_
          refine lv_topi (fun a_45 ea_45 => ?_)
          refine lv_goto (tgt := 50) hx hb dX7_worthAt_46 (by decide) ?_
          exact kt_ri () hx hb hr hlk hS dX7_worthAt_50 hP hD (by show (a_45.toInt = -1 ∧ ¬ (¬ sv.toInt = 0 ∧ (p2.toInt = 0 ∨ p2.toInt = 1) ∧ 0 ≤ p1.toInt ∧ p1.toInt < pp.toInt)) ∨ ((¬ sv.toInt = 0 ∧ (p2.toInt = 0 ∨ p2.toInt = 1) ∧ 0 ≤ p1.toInt ∧ p1.toInt < pp.toInt) ∧ a_45 = wo (2 * p1.toInt.toNat + p2.toInt.toNat)); first | exact Or.inl ⟨by decide, fun h => by omega⟩ | exact Or.inl ⟨by decide, fun h => (hw_8.f c_11) h.2.1⟩ | exact Or.inr ⟨⟨by omega, hq1, by omega, by omega⟩, by rw [ea_45, show t_44.toNatClampNeg = 2 * p1.toInt.toNat + p2.toInt.toNat from (by show t_44.toInt.toNat = _; omega)]⟩)
