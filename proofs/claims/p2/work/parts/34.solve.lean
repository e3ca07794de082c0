theorem iw_X7_solveAll_X7 : ∀ w ∈ wsX70, w ∈ wsX7_solveAll := by decide +kernel
set_option maxHeartbeats 4000000 in
set_option maxRecDepth 100000 in
theorem c_X7_solveAll_s (l : Launch) (D : va_G) (cI cZ cB : ClassId) (sz : Nat) (so : Nat) (ru : Nat) (tr : Nat) (lk : Nat) (vp : Nat) (vd : Nat) (vt : Nat) (vg : Nat) (vw : Nat) (ve : Nat) (vo : Nat) (vq : Nat) (qd : Int32) (pp : Int32) (ct : Int32) (sv : Int32) (hsv : ¬ sv.toInt = 0) : kt_Mi l yX7_solveAll wsX7_solveAll { frames := 0, cells := 0, slots := 0, locals := 0 } D (kt_ty cI cZ cB) [.ref so] sz [(so, .inr (7, [.ref ru, .ref tr, .ref lk, .ref vp, .ref vd, .ref vt, .ref vg, .ref vw, .ref ve, .ref vo, .ref vq, .int qd, .int pp, .int ct, .int sv]))] (fun (r : Int32) (u : Unit) => r = ct) (fun (u : Unit) => [(so, .inr (7, [.ref ru, .ref tr, .ref lk, .ref vp, .ref vd, .ref vt, .ref vg, .ref vw, .ref ve, .ref vo, .ref vq, .int qd, .int pp, .int ct, .int sv]))]) 0 0 := by
  refine kt_Mi.of (cc := cX7_solveAll) (maxL := 2) (ret := some .int) (by decide) rfl (Nat.le_of_ble_eq_true rfl) ?_
  intro p e s m below meth c A ls H hAt hP hD hS hl
  obtain ⟨hx, hb, hr, hml, hown, hts, hN, hK, hlk, hnm, hA⟩ := hAt
  have hl : lv_has ls 2 [(0, .ref so)] := hl
  have hown : s.vm.findClass RX7 = some m.cls := hown
  refine lv_aload_n hx hb dX7_solveAll_0 rfl (lv_at hl 0 rfl) ?_
  refine va_get (D := D) (ci := 7) (C := RX7) (T := TX7) (N := 15) hx hb hts iw_X7_solveAll_X7 hown hK hP 0 rfl rfl 14 (by decide) (hts (.fieldLink RX7 54 "KingTable$Solver" "solved" "Z") (by decide +kernel)) (fun _ h9 => h9) rfl dX7_solveAll_1 ?_
  refine lv_if_eq (tgt := 12) hx hb dX7_solveAll_4 (by decide) (fun c_4 => (by exfalso; apply hsv; rw [c_4]; decide)) (fun c_4 => ?_)
  refine lv_aload_n hx hb dX7_solveAll_7 rfl (lv_at hl 0 rfl) ?_
  refine va_get (D := D) (ci := 7) (C := RX7) (T := TX7) (N := 15) hx hb hts iw_X7_solveAll_X7 hown hK hP 0 rfl rfl 13 (by decide) (hts (.fieldLink RX7 58 "KingTable$Solver" "counted" "I") (by decide +kernel)) (fun _ h9 => h9) rfl dX7_solveAll_8 ?_
  exact kt_ri () hx hb hr hlk hS dX7_solveAll_11 hP hD (by show ct = ct; rfl)

set_option maxHeartbeats 4000000 in
set_option maxRecDepth 100000 in
theorem c_X7_solveAll_n (l : Launch) (D : va_G) (cI cZ cB : ClassId) (sz : Nat) (so : Nat) (ru : Nat) (tr : Nat) (lk : Nat) (vp : Nat) (vd : Nat) (vt : Nat) (vg : Nat) (vw : Nat) (ve : Nat) (vo : Nat) (vq : Nat) (qd : Int32) (pp : Int32) (ct : Int32) (sv : Int32) (ru : Nat) (la : Nat) (gr : Nat) (rk : Nat) (rs : Nat) (rt : Nat) (rv : Nat) (tt : Int32) (kg : Int32) (vc : Int32) (gt : Nat) (gg : Nat) (gn : Nat) (gs : Int32) (gm : Int32) (fp : Nat → Int32) (hsv : sv.toInt = 0) (htt : 0 ≤ tt.toInt ∧ tt.toInt ≤ 40) (hgs : 0 ≤ gs.toInt ∧ gs.toInt ≤ 81) (hno : kt_me (gs.toInt + 1) tt.toInt.toNat 1 = none) : kt_Mi l yX7_solveAll wsX7_solveAll { frames := 1, cells := 0, slots := 0, locals := 22 } D (kt_ty cI cZ cB) [.ref so] sz [(so, .inr (7, [.ref ru, .ref tr, .ref lk, .ref vp, .ref vd, .ref vt, .ref vg, .ref vw, .ref ve, .ref vo, .ref vq, .int qd, .int pp, .int ct, .int sv])), (ru, .inr (6, [.ref la, .ref gr, .ref rk, .ref rs, .ref rt, .int tt, .int kg, .ref rv, .int vc])), (gr, .inr (0, [.ref gt, .ref gg, .ref gn, .int gs, .int gm])), (vp, .inl (cI, 40, .inl fp))] (fun (r : Int32) (u : Int32 × (Nat → Int32)) => r.toInt = -1 ∧ u.1 = pp) (fun (u : Int32 × (Nat → Int32)) => [(so, .inr (7, [.ref ru, .ref tr, .ref lk, .ref vp, .ref vd, .ref vt, .ref vg, .ref vw, .ref ve, .ref vo, .ref vq, .int qd, .int u.1, .int ct, .int sv])), (ru, .inr (6, [.ref la, .ref gr, .ref rk, .ref rs, .ref rt, .int tt, .int kg, .ref rv, .int vc])), (gr, .inr (0, [.ref gt, .ref gg, .ref gn, .int gs, .int gm])), (vp, .inl (cI, 40, .inl u.2))]) 0 0 := by
  refine kt_Mi.of (cc := cX7_solveAll) (maxL := 2) (ret := some .int) (by decide) rfl (Nat.le_of_ble_eq_true rfl) ?_
  intro p e s m below meth c A ls H hAt hP hD hS hl
  obtain ⟨hx, hb, hr, hml, hown, hts, hN, hK, hlk, hnm, hA⟩ := hAt
  have hl : lv_has ls 2 [(0, .ref so)] := hl
  have hown : s.vm.findClass RX7 = some m.cls := hown
  refine lv_aload_n hx hb dX7_solveAll_0 rfl (lv_at hl 0 rfl) ?_
  refine va_get (D := D) (ci := 7) (C := RX7) (T := TX7) (N := 15) hx hb hts iw_X7_solveAll_X7 hown hK hP 0 rfl rfl 14 (by decide) (hts (.fieldLink RX7 54 "KingTable$Solver" "solved" "Z") (by decide +kernel)) (fun _ h9 => h9) rfl dX7_solveAll_1 ?_
  refine lv_if_eq (tgt := 12) hx hb dX7_solveAll_4 (by decide) (fun c_4 => ?_) (fun c_4 => (by exfalso; apply c_4; rw [kt_eq, kt_c0]; omega))
  refine lv_aload_n hx hb dX7_solveAll_12 rfl (lv_at hl 0 rfl) ?_
  refine kt_bi (wc := [(so, .inr (7, [.ref ru, .ref tr, .ref lk, .ref vp, .ref vd, .ref vt, .ref vg, .ref vw, .ref ve, .ref vo, .ref vq, .int qd, .int pp, .int ct, .int sv])), (ru, .inr (6, [.ref la, .ref gr, .ref rk, .ref rs, .ref rt, .int tt, .int kg, .ref rv, .int vc])), (gr, .inr (0, [.ref gt, .ref gg, .ref gn, .int gs, .int gm])), (vp, .inl (cI, 40, .inl fp))]) (wr := []) [0, 1, 2, 3] [] hP hD hS hA rfl rfl (by decide) (by decide) (by decide) (fun hPc hDc => va_runV (As := []) (rest := []) ⟨hx, hb, hml, hown, hts⟩ (c_X7_measure l D cI cZ cB H.size so ru tr lk vp vd vt vg vw ve vo vq qd pp ct sv ru la gr rk rs rt rv tt kg vc gt gg gn gs gm fp (by first | assumption | omega | rfl | decide) (by first | assumption | omega | rfl | decide)) (cwV 0 hts gX7_solveAll_X7_measure rfl rfl rfl (by decide +kernel) ⟨Nat.le_of_ble_eq_true rfl, Nat.le_of_ble_eq_true rfl⟩) (kt_preV hN hK hPc hDc 0 (ci := 7) (q := (RX7, TX7, 15)) rfl rfl) rfl rfl hl.1 rfl (lv_room (Nat.le_of_ble_eq_true rfl)) dX7_solveAll_13 ⟨Nat.le_of_ble_eq_true rfl, Nat.le_of_ble_eq_true rfl⟩) (fun r_13 u_ H locs hw_13 hP hD hS => ?_)
  obtain ⟨pp2_13, fp2_13⟩ := u_
  have hP : va_P D vwCl [(so, .inr (7, [.ref ru, .ref tr, .ref lk, .ref vp, .ref vd, .ref vt, .ref vg, .ref vw, .ref ve, .ref vo, .ref vq, .int qd, .int pp2_13, .int ct, .int sv])), (ru, .inr (6, [.ref la, .ref gr, .ref rk, .ref rs, .ref rt, .int tt, .int kg, .ref rv, .int vc])), (gr, .inr (0, [.ref gt, .ref gg, .ref gn, .int gs, .int gm])), (vp, .inl (cI, 40, .inl fp2_13))] H := hP.sub [0, 1, 2, 3] rfl
  have hD : va_D A [(so, .inr (7, [.ref ru, .ref tr, .ref lk, .ref vp, .ref vd, .ref vt, .ref vg, .ref vw, .ref ve, .ref vo, .ref vq, .int qd, .int pp2_13, .int ct, .int sv])), (ru, .inr (6, [.ref la, .ref gr, .ref rk, .ref rs, .ref rt, .int tt, .int kg, .ref rv, .int vc])), (gr, .inr (0, [.ref gt, .ref gg, .ref gn, .int gs, .int gm])), (vp, .inl (cI, 40, .inl fp2_13))] := hD.sub [0, 1, 2, 3] (by decide) rfl
  try dsimp only at hw_13
  obtain ⟨hm0, hm1⟩ : r_13 = 0 ∧ pp2_13 = pp := by
    rcases hw_13 with ⟨h1, h2, -⟩ | ⟨h1, h2, h3⟩
    · rw [hno] at h2; exact absurd h2 (by simp)
    · exact ⟨h1, h3⟩
  refine lv_if_ne (tgt := 21) hx hb dX7_solveAll_16 (by decide) (fun c_16 => (by exfalso; apply c_16; exact hm0)) (fun c_16 => ?_)
  refine lv_iconst (v := (-1)) hx hb dX7_solveAll_19 (by decide) ?_
  exact kt_ri (pp2_13, fp2_13) hx hb hr hlk hS dX7_solveAll_20 hP hD (by show (-1 : Int32).toInt = -1 ∧ pp2_13 = pp; exact ⟨by decide, hm1⟩)
