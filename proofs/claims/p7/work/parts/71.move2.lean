set_option maxHeartbeats 4000000 in
set_option maxRecDepth 100000 in
theorem c_X4_comesBackE (l : Launch) (D : va_G) (cI cZ cB : ClassId) (sz : Nat) (pl : Nat) (st : Int32) (ru : Nat) (la : Nat) (gr : Nat) (rk : Nat) (rs : Nat) (rt : Nat) (rv : Nat) (tt : Int32) (kg : Int32) (vc : Int32) (lg : Int32) (lh : Int32) (lt : Int32) (lr : Int32) (lc : Int32) (gt : Nat) (gg : Nat) (gn : Nat) (gs : Int32) (gm : Int32) (tg : Nat → Int32) (nb : Nat → Int32) (nw : Nat) (sf : Nat) (sh : Nat) (tu : Int32) (ff : Nat → Int32) (fh : Nat → Int32) (ck : Nat → Int32) (fs : Nat → Int32) (ft : Nat → Int32) (fv : Nat → Int32) (lo : Nat) (l0 : Nat) (l1 : Nat) (l2 : Nat) (l3 : Nat) (l4 : Nat) (l5 : Nat) (l6 : Nat) (dn : Int32) (kn : Int32) (m0 : Nat → Int32) (m1 : Nat → Int32) (m3 : Nat → Int32) (m6 : Nat → Int32) (w_ : Int) (L_ : Int) (P_ : Nat) (gl : Nat → Int32) (fk : Nat → Int32) (fr : Nat → Int32) (A0_ : Nat → Int32) (mv_ : Nat → Int32) (s0_ : Int) (m2 : Nat → Int32) (m4 : Nat → Int32) (m5 : Nat → Int32) (ga_ : Int) (gn_ : Int) (p1 : Int32) (p2 : Int32) (hgs : 0 ≤ gs.toInt ∧ gs.toInt ≤ 81) (hgt : kt_r tg 81 0 2) (hnb : kt_r nb 324 (-1) 80) (hlr : 0 ≤ lr.toInt ∧ lr.toInt ≤ 8) (htt : 0 ≤ tt.toInt ∧ tt.toInt ≤ 40) (hkg : -1 ≤ kg.toInt ∧ kg.toInt ≤ 39) (hvc : 0 ≤ vc.toInt ∧ vc.toInt ≤ 4) (hff : kt_r ff 40 (-1) 80) (hfh : kt_r fh 81 (-1) 39) (htu : 0 ≤ tu.toInt ∧ tu.toInt ≤ 1) (hrk : kt_r ck 40 0 4) (hrs : kt_r fs 40 0 1) (hrt : kt_r ft 40 0 1) (hrv : kt_r fv 4 0 39) (hdn : 0 ≤ dn.toInt ∧ dn.toInt ≤ 512) (hm0 : kt_r m0 512 0 39) (hm1 : kt_r m1 512 (-1) 80) (hm3 : kt_r m3 512 0 4) (hm6 : kt_r m6 40 (-1) 80) (hrx : kt_RX w_ L_ P_ tt kg gs lg lt tg gl nb fk fs ft fr ck) (hci : kt_CI w_ L_ P_ fr fk lt lh A0_ mv_ s0_ dn kn tu ff fh m0 m1 m2 m3 m4 m5) (hp1 : 0 ≤ p1.toInt ∧ p1.toInt < (P_ : Int)) (hxo : 0 ≤ (ff p1.toNatClampNeg).toInt) (hto : p2.toInt = kt_al (ff p1.toNatClampNeg).toInt w_ L_ ga_ gn_ ∧ 1 ≤ gn_ ∧ gn_ ≤ kt_rom (ff p1.toNatClampNeg).toInt w_ L_ ga_) (hfree : ∀ q, q < P_ → ¬ ff q = nI p2.toInt.toNat) : kt_Mi l yX4_comesBack wsX4_comesBack { frames := 3, cells := 0, slots := 0, locals := 88 } D (kt_ty cI cZ cB) [.ref pl, .int p1, .int p2] sz [(pl, .inr (4, [.ref la, .ref ru, .ref nw, .ref lo, .int st])), (ru, .inr (6, [.ref la, .ref gr, .ref rk, .ref rs, .ref rt, .int tt, .int kg, .ref rv, .int vc])), (la, .inr (1, [.int lg, .int lh, .int lt, .int lr, .int lc])), (gr, .inr (0, [.ref gt, .ref gg, .ref gn, .int gs, .int gm])), (gt, .inl (cI, 81, .inl tg)), (gn, .inl (cI, 324, .inl nb)), (nw, .inr (8, [.ref sf, .ref sh, .int tu])), (sf, .inl (cI, 40, .inl ff)), (sh, .inl (cI, 81, .inl fh)), (rk, .inl (cI, 40, .inl ck)), (rs, .inl (cI, 40, .inl fs)), (rt, .inl (cZ, 40, .inl ft)), (rv, .inl (cI, 4, .inl fv)), (lo, .inr (3, [.ref l0, .ref l1, .ref l2, .ref l3, .ref l4, .ref l5, .ref l6, .int dn, .int kn])), (l0, .inl (cI, 512, .inl m0)), (l1, .inl (cI, 512, .inl m1)), (l3, .inl (cI, 512, .inl m3)), (l6, .inl (cI, 40, .inl m6))] (fun (r : Int32) (u : (Nat → Int32) × (Nat → Int32) × Int32) => kt_B r (∃ k : Nat, k < dn.toInt.toNat + 1 ∧ (kt_S (kt_stepf P_ w_ L_ fr fk lt lh) A0_ mv_ k) = (kt_mk P_ w_ L_ fr fk lt lh (kt_S (kt_stepf P_ w_ L_ fr fk lt lh) A0_ mv_ dn.toInt.toNat) p1.toInt.toNat ga_ gn_) ∧ kt_sdk s0_ k = kt_sdk s0_ (dn.toInt.toNat + 1)) ∧ kt_VL u.1 u.2.2.toInt.toNat (fun j => j < P_ ∧ kt_gone (kt_S (kt_stepf P_ w_ L_ fr fk lt lh) A0_ mv_ dn.toInt.toNat) (kt_mk P_ w_ L_ fr fk lt lh (kt_S (kt_stepf P_ w_ L_ fr fk lt lh) A0_ mv_ dn.toInt.toNat) p1.toInt.toNat ga_ gn_) j) ∧ kt_r u.1 4 0 39 ∧ kt_r u.2.1 40 (-1) 80 ∧ 0 ≤ u.2.2.toInt ∧ u.2.2.toInt ≤ 4) (fun (u : (Nat → Int32) × (Nat → Int32) × Int32) => [(pl, .inr (4, [.ref la, .ref ru, .ref nw, .ref lo, .int st])), (ru, .inr (6, [.ref la, .ref gr, .ref rk, .ref rs, .ref rt, .int tt, .int kg, .ref rv, .int u.2.2])), (la, .inr (1, [.int lg, .int lh, .int lt, .int lr, .int lc])), (gr, .inr (0, [.ref gt, .ref gg, .ref gn, .int gs, .int gm])), (gt, .inl (cI, 81, .inl tg)), (gn, .inl (cI, 324, .inl nb)), (nw, .inr (8, [.ref sf, .ref sh, .int tu])), (sf, .inl (cI, 40, .inl ff)), (sh, .inl (cI, 81, .inl fh)), (rk, .inl (cI, 40, .inl ck)), (rs, .inl (cI, 40, .inl fs)), (rt, .inl (cZ, 40, .inl ft)), (rv, .inl (cI, 4, .inl u.1)), (lo, .inr (3, [.ref l0, .ref l1, .ref l2, .ref l3, .ref l4, .ref l5, .ref l6, .int dn, .int kn])), (l0, .inl (cI, 512, .inl m0)), (l1, .inl (cI, 512, .inl m1)), (l3, .inl (cI, 512, .inl m3)), (l6, .inl (cI, 40, .inl u.2.1))]) 0 0 := by
  refine kt_Mi.of (cc := cX4_comesBack) (maxL := 3) (ret := some .boolean) (by decide) rfl (Nat.le_of_ble_eq_true rfl) ?_
  intro p e s m below meth c A ls H hAt hP hD hS hl
  obtain ⟨hx, hb, hr, hml, hown, hts, hN, hK, hlk, hnm, hA⟩ := hAt
  have hl : lv_has ls 3 [(0, .ref pl), (1, .int p1), (2, .int p2)] := hl
  have hown : s.vm.findClass RX4 = some m.cls := hown
  have hrx0 := hrx
  have hci0 := hci
  obtain ⟨hgx, hnx, htf, ⟨htP, hP40⟩, hsd_, hkq, hck, hkr⟩ := hrx
  have hgx1 := hgx.1
  have hw_ := hgx.2.1
  have hL_ := hgx.2.2
  have httP : tt.toInt = (P_ : Int) := by rw [htP, kt_nI (by omega)]
  have hwl : (2 ≤ w_ ∧ w_ ≤ 9) ∧ (2 ≤ L_ ∧ L_ ≤ 9) ∧ P_ ≤ 40 := ⟨hw_, hL_, hP40⟩
  obtain ⟨⟨hd_, hs0_, htu_⟩, hst_, hcut, ⟨hA0, hinj0, hA0o⟩, hlog⟩ := hci
  have hlN : ∀ k, k < kn.toInt.toNat → kt_lgl P_ w_ L_ (kt_S (kt_stepf P_ w_ L_ fr fk lt lh) A0_ mv_ k) (mv_ k) := fun k hk => (hlog k (by omega)).1
  have hSr := kt_S_r (N := kn.toInt.toNat) hP40 hw_ hL_ hA0 hlN
  have hSo := kt_S_out (P := P_) (w := w_) (L := L_) (fr := fr) (fk := fk) (A0 := A0_) (mv := mv_) (mkt := lt) (mhd := lh) hA0o
  have hfS : ∀ q, q < P_ → ff q = (kt_S (kt_stepf P_ w_ L_ fr fk lt lh) A0_ mv_ dn.toInt.toNat) q := fun q hq => by rw [← hcut, kt_cut_in hq]
  have hsz := kt_mulb hL_ hw_
  have hX := hst_.1.get (kt_in (x := p1) (n := P_) (by omega) (by omega))
  have hp1n := kt_nIof (x := p1) hp1.1
  have hp2 : 0 ≤ p2.toInt ∧ p2.toInt < L_ * w_ := by
    rcases kt_al_r (a := ga_) (n := gn_) hw_ hL_ (show 0 ≤ (ff p1.toNatClampNeg).toInt ∧ (ff p1.toNatClampNeg).toInt < L_ * w_ by omega) hto.2.1 with h | h
    · exact absurd hto.2.2 h.2
    · omega
  have hSp : (kt_S (kt_stepf P_ w_ L_ fr fk lt lh) A0_ mv_ dn.toInt.toNat) p1.toInt.toNat = ff p1.toNatClampNeg := (hfS p1.toInt.toNat (by omega)).symm
  have hTS : p2.toInt = kt_al ((kt_S (kt_stepf P_ w_ L_ fr fk lt lh) A0_ mv_ dn.toInt.toNat) p1.toInt.toNat).toInt w_ L_ ga_ gn_ := by rw [hSp]; exact hto.1
  refine lv_aload_n hx hb dX4_comesBack_0 rfl (lv_at hl 0 rfl) ?_
  refine va_get (D := D) (ci := 4) (C := RX4) (T := TX4) (N := 5) hx hb hts iw_X4_comesBack_X4 hown hK hP 0 rfl rfl 1 (by decide) (hts (.fieldLink RX4 33 "KingTable$Play" "rules" "LKingTable$Rules;") (kt_wp_X4_comesBack__X4_comesBack_r1 kt_wm0)) (fun _ h9 => h9) rfl dX4_comesBack_1 ?_
  refine lv_aload_n hx hb dX4_comesBack_4 rfl (lv_at hl 0 rfl) ?_
  refine va_get (D := D) (ci := 4) (C := RX4) (T := TX4) (N := 5) hx hb hts iw_X4_comesBack_X4 hown hK hP 0 rfl rfl 2 (by decide) (hts (.fieldLink RX4 12 "KingTable$Play" "now" "LKingTable$Stand;") (kt_wp_X4_comesBack__X4_comesBack_r1 kt_wm1)) (fun _ h9 => h9) rfl dX4_comesBack_5 ?_
  refine lv_iload_n hx hb dX4_comesBack_8 rfl (lv_at hl 1 rfl) ?_
  refine lv_iload_n hx hb dX4_comesBack_9 rfl (lv_at hl 2 rfl) ?_
  refine kt_bi (wc := [(ru, .inr (6, [.ref la, .ref gr, .ref rk, .ref rs, .ref rt, .int tt, .int kg, .ref rv, .int vc])), (la, .inr (1, [.int lg, .int lh, .int lt, .int lr, .int lc])), (gr, .inr (0, [.ref gt, .ref gg, .ref gn, .int gs, .int gm])), (gt, .inl (cI, 81, .inl tg)), (gn, .inl (cI, 324, .inl nb)), (nw, .inr (8, [.ref sf, .ref sh, .int tu])), (sf, .inl (cI, 40, .inl ff)), (sh, .inl (cI, 81, .inl fh)), (rk, .inl (cI, 40, .inl ck)), (rs, .inl (cI, 40, .inl fs)), (rt, .inl (cZ, 40, .inl ft)), (rv, .inl (cI, 4, .inl fv))]) (wr := [(pl, .inr (4, [.ref la, .ref ru, .ref nw, .ref lo, .int st])), (lo, .inr (3, [.ref l0, .ref l1, .ref l2, .ref l3, .ref l4, .ref l5, .ref l6, .int dn, .int kn])), (l0, .inl (cI, 512, .inl m0)), (l1, .inl (cI, 512, .inl m1)), (l3, .inl (cI, 512, .inl m3)), (l6, .inl (cI, 40, .inl m6))]) [1, 2, 3, 4, 5, 6, 7, 8, 9, 10, 11, 12] [0, 13, 14, 15, 16, 17] hP hD hS hA rfl rfl (by decide) (by decide) (by decide) (fun hPc hDc => va_runV (As := [.ref nw, .int p1, .int p2]) (rest := []) ⟨hx, hb, hml, hown, hts⟩ (c_X6_findVictimsE l D cI cZ cB H.size ru la gr rk rs rt rv tt kg vc lg lh lt lr lc gt gg gn gs gm tg nb nw sf sh tu ff fh ck fs ft fv w_ L_ P_ gl fk fr p1 p2 hgs hgt hnb hlr htt hkg hvc hff hfh htu hrk hrs hrt hrv hrx0 hst_ hp1 hxo hp2 hfree) (cwV 3 hts gX4_comesBack_X6_findVictims rfl rfl rfl (by decide +kernel) ⟨Nat.le_of_ble_eq_true rfl, Nat.le_of_ble_eq_true rfl⟩) (kt_preV hN hK hPc hDc 0 (ci := 6) (q := (RX6, TX6, 9)) rfl rfl) rfl rfl hl.1 rfl (lv_room (Nat.le_of_ble_eq_true rfl)) dX4_comesBack_10 ⟨Nat.le_of_ble_eq_true rfl, Nat.le_of_ble_eq_true rfl⟩) (fun r_10 u_ H locs hw_10 hP hD hS => ?_)
  obtain ⟨fv2_10, vc2_10⟩ := u_
  have hP : va_P D vwCl [(pl, .inr (4, [.ref la, .ref ru, .ref nw, .ref lo, .int st])), (ru, .inr (6, [.ref la, .ref gr, .ref rk, .ref rs, .ref rt, .int tt, .int kg, .ref rv, .int vc2_10])), (la, .inr (1, [.int lg, .int lh, .int lt, .int lr, .int lc])), (gr, .inr (0, [.ref gt, .ref gg, .ref gn, .int gs, .int gm])), (gt, .inl (cI, 81, .inl tg)), (gn, .inl (cI, 324, .inl nb)), (nw, .inr (8, [.ref sf, .ref sh, .int tu])), (sf, .inl (cI, 40, .inl ff)), (sh, .inl (cI, 81, .inl fh)), (rk, .inl (cI, 40, .inl ck)), (rs, .inl (cI, 40, .inl fs)), (rt, .inl (cZ, 40, .inl ft)), (rv, .inl (cI, 4, .inl fv2_10)), (lo, .inr (3, [.ref l0, .ref l1, .ref l2, .ref l3, .ref l4, .ref l5, .ref l6, .int dn, .int kn])), (l0, .inl (cI, 512, .inl m0)), (l1, .inl (cI, 512, .inl m1)), (l3, .inl (cI, 512, .inl m3)), (l6, .inl (cI, 40, .inl m6))] H := hP.sub [0, 6, 7, 8, 9, 10, 11, 12, 13, 14, 15, 16, 17, 1, 2, 3, 4, 5] rfl
  have hD : va_D A [(pl, .inr (4, [.ref la, .ref ru, .ref nw, .ref lo, .int st])), (ru, .inr (6, [.ref la, .ref gr, .ref rk, .ref rs, .ref rt, .int tt, .int kg, .ref rv, .int vc2_10])), (la, .inr (1, [.int lg, .int lh, .int lt, .int lr, .int lc])), (gr, .inr (0, [.ref gt, .ref gg, .ref gn, .int gs, .int gm])), (gt, .inl (cI, 81, .inl tg)), (gn, .inl (cI, 324, .inl nb)), (nw, .inr (8, [.ref sf, .ref sh, .int tu])), (sf, .inl (cI, 40, .inl ff)), (sh, .inl (cI, 81, .inl fh)), (rk, .inl (cI, 40, .inl ck)), (rs, .inl (cI, 40, .inl fs)), (rt, .inl (cZ, 40, .inl ft)), (rv, .inl (cI, 4, .inl fv2_10)), (lo, .inr (3, [.ref l0, .ref l1, .ref l2, .ref l3, .ref l4, .ref l5, .ref l6, .int dn, .int kn])), (l0, .inl (cI, 512, .inl m0)), (l1, .inl (cI, 512, .inl m1)), (l3, .inl (cI, 512, .inl m3)), (l6, .inl (cI, 40, .inl m6))] := hD.sub [0, 6, 7, 8, 9, 10, 11, 12, 13, 14, 15, 16, 17, 1, 2, 3, 4, 5] (by decide) rfl
  try dsimp only at hw_10
  obtain ⟨er, hVL0, hrv, hvc⟩ := hw_10
  have hVL : kt_VL fv2_10 vc2_10.toInt.toNat (fun j => j < P_ ∧ kt_gone (kt_S (kt_stepf P_ w_ L_ fr fk lt lh) A0_ mv_ dn.toInt.toNat) (kt_mk P_ w_ L_ fr fk lt lh (kt_S (kt_stepf P_ w_ L_ fr fk lt lh) A0_ mv_ dn.toInt.toNat) p1.toInt.toNat ga_ gn_) j) := by
    refine kt_vl_gone (T := p2) hst_ hfS hP40 hw_ hL_ (by omega) hxo hTS hp2 hfree ?_
    rw [← hp1n]
    exact hVL0
  refine lv_if_ne (tgt := 36) hx hb dX4_comesBack_13 (by decide) (fun c_13 => ?_) (fun c_13 => ?_)
  · have d_13 := c_13
    simp only [kt_lt, kt_le, kt_eq, kt_c0, kt_c1, kt_c2, kt_c3, kt_c4, kt_c8, kt_c9, kt_cm1, kt_c81, kt_c40, kt_c7, kt_c5, kt_c6, kt_c512, kt_c10, kt_c10000] at d_13
    have hfin : ¬ (∃ k : Nat, k < dn.toInt.toNat + 1 ∧ (kt_S (kt_stepf P_ w_ L_ fr fk lt lh) A0_ mv_ k) = (kt_mk P_ w_ L_ fr fk lt lh (kt_S (kt_stepf P_ w_ L_ fr fk lt lh) A0_ mv_ dn.toInt.toNat) p1.toInt.toNat ga_ gn_) ∧ kt_sdk s0_ k = kt_sdk s0_ (dn.toInt.toNat + 1)) ∨ vc2_10.toInt = 0 := by
      by_cases e : vc2_10.toInt = 0
      · exact Or.inr e
      · obtain ⟨j, b1, b2, b3, b4⟩ := hVL.2.1 0 (by omega)
        exact Or.inl (kt_bk_no (N := kn.toInt.toNat) hP40 hw_ hL_ hA0 hlN (by omega) b3 b4)
    refine lv_iconst (v := 0) hx hb dX4_comesBack_36 (by decide) ?_
    exact kt_rz (fv2_10, m6, vc2_10) hx hb hr hlk hS dX4_comesBack_37 hP hD (by show kt_B (0 : Int32) (∃ k : Nat, k < dn.toInt.toNat + 1 ∧ (kt_S (kt_stepf P_ w_ L_ fr fk lt lh) A0_ mv_ k) = (kt_mk P_ w_ L_ fr fk lt lh (kt_S (kt_stepf P_ w_ L_ fr fk lt lh) A0_ mv_ dn.toInt.toNat) p1.toInt.toNat ga_ gn_) ∧ kt_sdk s0_ k = kt_sdk s0_ (dn.toInt.toNat + 1)) ∧ kt_VL fv2_10 vc2_10.toInt.toNat (fun j => j < P_ ∧ kt_gone (kt_S (kt_stepf P_ w_ L_ fr fk lt lh) A0_ mv_ dn.toInt.toNat) (kt_mk P_ w_ L_ fr fk lt lh (kt_S (kt_stepf P_ w_ L_ fr fk lt lh) A0_ mv_ dn.toInt.toNat) p1.toInt.toNat ga_ gn_) j) ∧ kt_r fv2_10 4 0 39 ∧ kt_r m6 40 (-1) 80 ∧ 0 ≤ vc2_10.toInt ∧ vc2_10.toInt ≤ 4; first
         | exact ⟨Or.inl ⟨rfl, hbi.mp (hsn.t c_29)⟩, hVL, hrv, hm6, hvc⟩
         | exact ⟨Or.inr ⟨rfl, fun h => (hsn.f c_29) (hbi.mpr h)⟩, hVL, hrv, hm6, hvc⟩
         | exact ⟨Or.inr ⟨rfl, hfin.elim id (fun h => absurd ((kt_eq _ _).mpr (by rw [er, kt_c0]; exact h)) c_13)⟩, hVL, hrv, hm6, hvc⟩) rfl
  · have d_13 := c_13
    simp only [kt_lt, kt_le, kt_eq, kt_c0, kt_c1, kt_c2, kt_c3, kt_c4, kt_c8, kt_c9, kt_cm1, kt_c81, kt_c40, kt_c7, kt_c5, kt_c6, kt_c512, kt_c10, kt_c10000] at d_13
    have hv0 : vc2_10.toInt = 0 := by rw [← er]; omega
    have hno : ∀ j, j < P_ → ¬ kt_gone (kt_S (kt_stepf P_ w_ L_ fr fk lt lh) A0_ mv_ dn.toInt.toNat) (kt_mk P_ w_ L_ fr fk lt lh (kt_S (kt_stepf P_ w_ L_ fr fk lt lh) A0_ mv_ dn.toInt.toNat) p1.toInt.toNat ga_ gn_) j := fun j hj hg => by
      obtain ⟨i, b1, -⟩ := hVL.2.2.1 j (by omega) ⟨hj, hg⟩
      omega
    have hMK : (kt_mk P_ w_ L_ fr fk lt lh (kt_S (kt_stepf P_ w_ L_ fr fk lt lh) A0_ mv_ dn.toInt.toNat) p1.toInt.toNat ga_ gn_) = upd (kt_S (kt_stepf P_ w_ L_ fr fk lt lh) A0_ mv_ dn.toInt.toNat) p1.toInt.toNat p2 := by
      have h9 := kt_mk_none (fr := fr) (fk := fk) (mkt := lt) (mhd := lh) (a := ga_) (n := gn_) hsz.2 (hSo dn.toInt.toNat) (show p1.toInt.toNat < P_ by omega) (by rw [← hTS]; exact hp2) hno
      rw [← hTS, ← kt_nIof (x := p2) hp2.1] at h9
      exact h9
    have hbi := kt_bk_iff (S := fun k => (kt_S (kt_stepf P_ w_ L_ fr fk lt lh) A0_ mv_ k)) (s0 := s0_) (show dn.toInt = (dn.toInt.toNat : Int) by omega) hs0_ hMK
    refine lv_aload_n hx hb dX4_comesBack_16 rfl (lv_at hl 0 rfl) ?_
    refine va_get (D := D) (ci := 4) (C := RX4) (T := TX4) (N := 5) hx hb hts iw_X4_comesBack_X4 hown hK hP 0 rfl rfl 3 (by decide) (hts (.fieldLink RX4 21 "KingTable$Play" "log" "LKingTable$Log;") (kt_wp_X4_comesBack__X4_comesBack_r1 kt_wm2)) (fun _ h9 => h9) rfl dX4_comesBack_17 ?_
    refine lv_aload_n hx hb dX4_comesBack_20 rfl (lv_at hl 0 rfl) ?_
    refine va_get (D := D) (ci := 4) (C := RX4) (T := TX4) (N := 5) hx hb hts iw_X4_comesBack_X4 hown hK hP 0 rfl rfl 2 (by decide) (hts (.fieldLink RX4 12 "KingTable$Play" "now" "LKingTable$Stand;") (kt_wp_X4_comesBack__X4_comesBack_r1 kt_wm1)) (fun _ h9 => h9) rfl dX4_comesBack_21 ?_
    refine lv_iload_n hx hb dX4_comesBack_24 rfl (lv_at hl 1 rfl) ?_
    refine lv_iload_n hx hb dX4_comesBack_25 rfl (lv_at hl 2 rfl) ?_
    refine kt_bi (wc := [(lo, .inr (3, [.ref l0, .ref l1, .ref l2, .ref l3, .ref l4, .ref l5, .ref l6, .int dn, .int kn])), (l0, .inl (cI, 512, .inl m0)), (l1, .inl (cI, 512, .inl m1)), (l3, .inl (cI, 512, .inl m3)), (l6, .inl (cI, 40, .inl m6)), (nw, .inr (8, [.ref sf, .ref sh, .int tu])), (sf, .inl (cI, 40, .inl ff))]) (wr := [(pl, .inr (4, [.ref la, .ref ru, .ref nw, .ref lo, .int st])), (ru, .inr (6, [.ref la, .ref gr, .ref rk, .ref rs, .ref rt, .int tt, .int kg, .ref rv, .int vc2_10])), (la, .inr (1, [.int lg, .int lh, .int lt, .int lr, .int lc])), (gr, .inr (0, [.ref gt, .ref gg, .ref gn, .int gs, .int gm])), (gt, .inl (cI, 81, .inl tg)), (gn, .inl (cI, 324, .inl nb)), (sh, .inl (cI, 81, .inl fh)), (rk, .inl (cI, 40, .inl ck)), (rs, .inl (cI, 40, .inl fs)), (rt, .inl (cZ, 40, .inl ft)), (rv, .inl (cI, 4, .inl fv2_10))]) [13, 14, 15, 16, 17, 6, 7] [0, 1, 2, 3, 4, 5, 8, 9, 10, 11, 12] hP hD hS hA rfl rfl (by decide) (by decide) (by decide) (fun hPc hDc => va_runV (As := [.ref nw, .int p1, .int p2]) (rest := []) ⟨hx, hb, hml, hown, hts⟩ (c_X3_hasSeenE l D cI cZ cB H.size lo l0 l1 l2 l3 l4 l5 l6 dn kn m0 m1 m3 m6 nw sf sh tu ff w_ L_ P_ fr fk A0_ mv_ s0_ lt lh fh m2 m4 m5 p1 p2 hdn hm0 hm1 hm3 hm6 hff hci0 hwl hp1 (fun h => by have h2 := congrArg Int32.toInt h; rw [kt_cm1] at h2; omega) (fun h => hfree p1.toInt.toNat (by omega) (by rw [← kt_nIof (x := p2) hp2.1]; exact h)) (by omega)) (cwV 3 hts gX4_comesBack_X3_hasSeen rfl rfl rfl (by decide +kernel) ⟨Nat.le_of_ble_eq_true rfl, Nat.le_of_ble_eq_true rfl⟩) (kt_preV hN hK hPc hDc 0 (ci := 3) (q := (RX3, TX3, 9)) rfl rfl) rfl rfl hl.1 rfl (lv_room (Nat.le_of_ble_eq_true rfl)) dX4_comesBack_26 ⟨Nat.le_of_ble_eq_true rfl, Nat.le_of_ble_eq_true rfl⟩) (fun r_26 u_ H locs hw_26 hP hD hS => ?_)
    obtain ⟨g6_26, rfl⟩ : ∃ z, z = u_ := ⟨_, rfl⟩
    have hP : va_P D vwCl [(pl, .inr (4, [.ref la, .ref ru, .ref nw, .ref lo, .int st])), (ru, .inr (6, [.ref la, .ref gr, .ref rk, .ref rs, .ref rt, .int tt, .int kg, .ref rv, .int vc2_10])), (la, .inr (1, [.int lg, .int lh, .int lt, .int lr, .int lc])), (gr, .inr (0, [.ref gt, .ref gg, .ref gn, .int gs, .int gm])), (gt, .inl (cI, 81, .inl tg)), (gn, .inl (cI, 324, .inl nb)), (nw, .inr (8, [.ref sf, .ref sh, .int tu])), (sf, .inl (cI, 40, .inl ff)), (sh, .inl (cI, 81, .inl fh)), (rk, .inl (cI, 40, .inl ck)), (rs, .inl (cI, 40, .inl fs)), (rt, .inl (cZ, 40, .inl ft)), (rv, .inl (cI, 4, .inl fv2_10)), (lo, .inr (3, [.ref l0, .ref l1, .ref l2, .ref l3, .ref l4, .ref l5, .ref l6, .int dn, .int kn])), (l0, .inl (cI, 512, .inl m0)), (l1, .inl (cI, 512, .inl m1)), (l3, .inl (cI, 512, .inl m3)), (l6, .inl (cI, 40, .inl g6_26))] H := hP.sub [0, 1, 2, 3, 4, 5, 16, 17, 6, 7, 8, 9, 10, 11, 12, 13, 14, 15] rfl
    have hD : va_D A [(pl, .inr (4, [.ref la, .ref ru, .ref nw, .ref lo, .int st])), (ru, .inr (6, [.ref la, .ref gr, .ref rk, .ref rs, .ref rt, .int tt, .int kg, .ref rv, .int vc2_10])), (la, .inr (1, [.int lg, .int lh, .int lt, .int lr, .int lc])), (gr, .inr (0, [.ref gt, .ref gg, .ref gn, .int gs, .int gm])), (gt, .inl (cI, 81, .inl tg)), (gn, .inl (cI, 324, .inl nb)), (nw, .inr (8, [.ref sf, .ref sh, .int tu])), (sf, .inl (cI, 40, .inl ff)), (sh, .inl (cI, 81, .inl fh)), (rk, .inl (cI, 40, .inl ck)), (rs, .inl (cI, 40, .inl fs)), (rt, .inl (cZ, 40, .inl ft)), (rv, .inl (cI, 4, .inl fv2_10)), (lo, .inr (3, [.ref l0, .ref l1, .ref l2, .ref l3, .ref l4, .ref l5, .ref l6, .int dn, .int kn])), (l0, .inl (cI, 512, .inl m0)), (l1, .inl (cI, 512, .inl m1)), (l3, .inl (cI, 512, .inl m3)), (l6, .inl (cI, 40, .inl g6_26))] := hD.sub [0, 1, 2, 3, 4, 5, 16, 17, 6, 7, 8, 9, 10, 11, 12, 13, 14, 15] (by decide) rfl
    try dsimp only at hw_26
    obtain ⟨hsn, hm6⟩ := hw_26
    refine lv_if_eq (tgt := 36) hx hb dX4_comesBack_29 (by decide) (fun c_29 => ?_) (fun c_29 => ?_)
    · have d_29 := c_29
      simp only [kt_lt, kt_le, kt_eq, kt_c0, kt_c1, kt_c2, kt_c3, kt_c4, kt_c8, kt_c9, kt_cm1, kt_c81, kt_c40, kt_c7, kt_c5, kt_c6, kt_c512, kt_c10, kt_c10000] at d_29
      have hfin : ¬ (∃ k : Nat, k < dn.toInt.toNat + 1 ∧ (kt_S (kt_stepf P_ w_ L_ fr fk lt lh) A0_ mv_ k) = (kt_mk P_ w_ L_ fr fk lt lh (kt_S (kt_stepf P_ w_ L_ fr fk lt lh) A0_ mv_ dn.toInt.toNat) p1.toInt.toNat ga_ gn_) ∧ kt_sdk s0_ k = kt_sdk s0_ (dn.toInt.toNat + 1)) ∨ vc2_10.toInt = 0 := by
        by_cases e : vc2_10.toInt = 0
        · exact Or.inr e
        · obtain ⟨j, b1, b2, b3, b4⟩ := hVL.2.1 0 (by omega)
          exact Or.inl (kt_bk_no (N := kn.toInt.toNat) hP40 hw_ hL_ hA0 hlN (by omega) b3 b4)
      refine lv_iconst (v := 0) hx hb dX4_comesBack_36 (by decide) ?_
      exact kt_rz (fv2_10, g6_26, vc2_10) hx hb hr hlk hS dX4_comesBack_37 hP hD (by show kt_B (0 : Int32) (∃ k : Nat, k < dn.toInt.toNat + 1 ∧ (kt_S (kt_stepf P_ w_ L_ fr fk lt lh) A0_ mv_ k) = (kt_mk P_ w_ L_ fr fk lt lh (kt_S (kt_stepf P_ w_ L_ fr fk lt lh) A0_ mv_ dn.toInt.toNat) p1.toInt.toNat ga_ gn_) ∧ kt_sdk s0_ k = kt_sdk s0_ (dn.toInt.toNat + 1)) ∧ kt_VL fv2_10 vc2_10.toInt.toNat (fun j => j < P_ ∧ kt_gone (kt_S (kt_stepf P_ w_ L_ fr fk lt lh) A0_ mv_ dn.toInt.toNat) (kt_mk P_ w_ L_ fr fk lt lh (kt_S (kt_stepf P_ w_ L_ fr fk lt lh) A0_ mv_ dn.toInt.toNat) p1.toInt.toNat ga_ gn_) j) ∧ kt_r fv2_10 4 0 39 ∧ kt_r g6_26 40 (-1) 80 ∧ 0 ≤ vc2_10.toInt ∧ vc2_10.toInt ≤ 4; first
           | exact ⟨Or.inl ⟨rfl, hbi.mp (hsn.t c_29)⟩, hVL, hrv, hm6, hvc⟩
           | exact ⟨Or.inr ⟨rfl, fun h => (hsn.f c_29) (hbi.mpr h)⟩, hVL, hrv, hm6, hvc⟩
           | exact ⟨Or.inr ⟨rfl, hfin.elim id (fun h => absurd ((kt_eq _ _).mpr (by rw [er, kt_c0]; exact h)) c_13)⟩, hVL, hrv, hm6, hvc⟩) rfl
    · have d_29 := c_29
      simp only [kt_lt, kt_le, kt_eq, kt_c0, kt_c1, kt_c2, kt_c3, kt_c4, kt_c8, kt_c9, kt_cm1, kt_c81, kt_c40, kt_c7, kt_c5, kt_c6, kt_c512, kt_c10, kt_c10000] at d_29
      refine lv_iconst (v := 1) hx hb dX4_comesBack_32 (by decide) ?_
      refine lv_goto (tgt := 37) hx hb dX4_comesBack_33 (by decide) ?_
      exact kt_rz (fv2_10, g6_26, vc2_10) hx hb hr hlk hS dX4_comesBack_37 hP hD (by show kt_B (1 : Int32) (∃ k : Nat, k < dn.toInt.toNat + 1 ∧ (kt_S (kt_stepf P_ w_ L_ fr fk lt lh) A0_ mv_ k) = (kt_mk P_ w_ L_ fr fk lt lh (kt_S (kt_stepf P_ w_ L_ fr fk lt lh) A0_ mv_ dn.toInt.toNat) p1.toInt.toNat ga_ gn_) ∧ kt_sdk s0_ k = kt_sdk s0_ (dn.toInt.toNat + 1)) ∧ kt_VL fv2_10 vc2_10.toInt.toNat (fun j => j < P_ ∧ kt_gone (kt_S (kt_stepf P_ w_ L_ fr fk lt lh) A0_ mv_ dn.toInt.toNat) (kt_mk P_ w_ L_ fr fk lt lh (kt_S (kt_stepf P_ w_ L_ fr fk lt lh) A0_ mv_ dn.toInt.toNat) p1.toInt.toNat ga_ gn_) j) ∧ kt_r fv2_10 4 0 39 ∧ kt_r g6_26 40 (-1) 80 ∧ 0 ≤ vc2_10.toInt ∧ vc2_10.toInt ≤ 4; first
           | exact ⟨Or.inl ⟨rfl, hbi.mp (hsn.t c_29)⟩, hVL, hrv, hm6, hvc⟩
           | exact ⟨Or.inr ⟨rfl, fun h => (hsn.f c_29) (hbi.mpr h)⟩, hVL, hrv, hm6, hvc⟩
           | exact ⟨Or.inr ⟨rfl, hfin.elim id (fun h => absurd ((kt_eq _ _).mpr (by rw [er, kt_c0]; exact h)) c_13)⟩, hVL, hrv, hm6, hvc⟩) rfl

set_option maxHeartbeats 4000000 in
set_option maxRecDepth 100000 in
theorem c_X4_moveE (l : Launch) (D : va_G) (cI cZ cB : ClassId) (sz : Nat) (pl : Nat) (st : Int32) (ru : Nat) (la : Nat) (gr : Nat) (rk : Nat) (rs : Nat) (rt : Nat) (rv : Nat) (tt : Int32) (kg : Int32) (vc : Int32) (lg : Int32) (lh : Int32) (lt : Int32) (lr : Int32) (lc : Int32) (gt : Nat) (gg : Nat) (gn : Nat) (gs : Int32) (gm : Int32) (tg : Nat → Int32) (nb : Nat → Int32) (nw : Nat) (sf : Nat) (sh : Nat) (tu : Int32) (ff : Nat → Int32) (fh : Nat → Int32) (ck : Nat → Int32) (fs : Nat → Int32) (ft : Nat → Int32) (fv : Nat → Int32) (lo : Nat) (l0 : Nat) (l1 : Nat) (l2 : Nat) (l3 : Nat) (l4 : Nat) (l5 : Nat) (l6 : Nat) (dn : Int32) (kn : Int32) (m0 : Nat → Int32) (m1 : Nat → Int32) (m2 : Nat → Int32) (m3 : Nat → Int32) (m4 : Nat → Int32) (m5 : Nat → Int32) (m6 : Nat → Int32) (w_ : Int) (L_ : Int) (P_ : Nat) (gl : Nat → Int32) (fk : Nat → Int32) (fr : Nat → Int32) (A0_ : Nat → Int32) (mv_ : Nat → Int32) (s0_ : Int) (m_ : Int32) (p1 : Int32) (p2 : Int32) (hgs : 0 ≤ gs.toInt ∧ gs.toInt ≤ 81) (hgt : kt_r tg 81 0 2) (hnb : kt_r nb 324 (-1) 80) (hlr : 0 ≤ lr.toInt ∧ lr.toInt ≤ 8) (htt : 0 ≤ tt.toInt ∧ tt.toInt ≤ 40) (hkg : -1 ≤ kg.toInt ∧ kg.toInt ≤ 39) (hvc : 0 ≤ vc.toInt ∧ vc.toInt ≤ 4) (hff : kt_r ff 40 (-1) 80) (hfh : kt_r fh 81 (-1) 39) (htu : 0 ≤ tu.toInt ∧ tu.toInt ≤ 1) (hrk : kt_r ck 40 0 4) (hrs : kt_r fs 40 0 1) (hrt : kt_r ft 40 0 1) (hrv : kt_r fv 4 0 39) (hkn : 0 ≤ kn.toInt ∧ kn.toInt ≤ 512) (hm0 : kt_r m0 512 0 39) (hm1 : kt_r m1 512 (-1) 80) (hm2 : kt_r m2 512 (-1) 80) (hm3 : kt_r m3 512 0 4) (hm4 : kt_r m4 2048 0 39) (hm5 : kt_r m5 2048 (-1) 80) (hm6 : kt_r m6 40 (-1) 80) (hdn : 0 ≤ dn.toInt ∧ dn.toInt ≤ 511) (hrx : kt_RX w_ L_ P_ tt kg gs lg lt tg gl nb fk fs ft fr ck) (hci : kt_CI w_ L_ P_ fr fk lt lh A0_ mv_ s0_ dn kn tu ff fh m0 m1 m2 m3 m4 m5) (hlm : kt_lgl P_ w_ L_ (kt_S (kt_stepf P_ w_ L_ fr fk lt lh) A0_ mv_ dn.toInt.toNat) m_ ∧ p1 = nI (m_.toInt / 32).toNat ∧ p2.toInt = kt_al ((kt_S (kt_stepf P_ w_ L_ fr fk lt lh) A0_ mv_ dn.toInt.toNat) (m_.toInt / 32).toNat).toInt w_ L_ (m_.toInt / 8 % 4) (m_.toInt % 8 + 1)) (hor : kn.toInt = dn.toInt ∨ (dn.toInt < kn.toInt ∧ mv_ dn.toInt.toNat = m_)) : kt_Mi l yX4_move wsX4_move { frames := 4, cells := 0, slots := 0, locals := 110 } D (kt_ty cI cZ cB) [.ref pl, .int p1, .int p2] sz [(pl, .inr (4, [.ref la, .ref ru, .ref nw, .ref lo, .int st])), (ru, .inr (6, [.ref la, .ref gr, .ref rk, .ref rs, .ref rt, .int tt, .int kg, .ref rv, .int vc])), (la, .inr (1, [.int lg, .int lh, .int lt, .int lr, .int lc])), (gr, .inr (0, [.ref gt, .ref gg, .ref gn, .int gs, .int gm])), (gt, .inl (cI, 81, .inl tg)), (gn, .inl (cI, 324, .inl nb)), (nw, .inr (8, [.ref sf, .ref sh, .int tu])), (sf, .inl (cI, 40, .inl ff)), (sh, .inl (cI, 81, .inl fh)), (rk, .inl (cI, 40, .inl ck)), (rs, .inl (cI, 40, .inl fs)), (rt, .inl (cZ, 40, .inl ft)), (rv, .inl (cI, 4, .inl fv)), (lo, .inr (3, [.ref l0, .ref l1, .ref l2, .ref l3, .ref l4, .ref l5, .ref l6, .int dn, .int kn])), (l0, .inl (cI, 512, .inl m0)), (l1, .inl (cI, 512, .inl m1)), (l2, .inl (cI, 512, .inl m2)), (l3, .inl (cI, 512, .inl m3)), (l4, .inl (cI, 2048, .inl m4)), (l5, .inl (cI, 2048, .inl m5)), (l6, .inl (cI, 40, .inl m6))] (fun (r : Int32) (u : Int32 × Int32 × Int32 × Int32 × (Nat → Int32) × (Nat → Int32) × (Nat → Int32) × (Nat → Int32) × (Nat → Int32) × (Nat → Int32) × (Nat → Int32) × (Nat → Int32) × (Nat → Int32) × (Nat → Int32)) => kt_B r (∃ k : Nat, k < dn.toInt.toNat + 1 ∧ (kt_S (kt_stepf P_ w_ L_ fr fk lt lh) A0_ mv_ k) = (kt_stepf P_ w_ L_ fr fk lt lh (kt_S (kt_stepf P_ w_ L_ fr fk lt lh) A0_ mv_ dn.toInt.toNat) m_) ∧ kt_sdk s0_ k = kt_sdk s0_ (dn.toInt.toNat + 1)) ∧ (u.1.toInt = dn.toInt + 1 ∧ (kn.toInt ≤ dn.toInt → u.2.1.toInt = dn.toInt + 1) ∧ (dn.toInt < kn.toInt → u.2.1 = kn)) ∧ kt_CI w_ L_ P_ fr fk lt lh A0_ (upd mv_ dn.toInt.toNat m_) s0_ u.1 u.2.1 u.2.2.1 u.2.2.2.2.1 u.2.2.2.2.2.1 u.2.2.2.2.2.2.2.1 u.2.2.2.2.2.2.2.2.1 u.2.2.2.2.2.2.2.2.2.1 u.2.2.2.2.2.2.2.2.2.2.1 u.2.2.2.2.2.2.2.2.2.2.2.1 u.2.2.2.2.2.2.2.2.2.2.2.2.1 ∧ (0 ≤ u.1.toInt ∧ u.1.toInt ≤ 512) ∧ (0 ≤ u.2.1.toInt ∧ u.2.1.toInt ≤ 512) ∧ (0 ≤ u.2.2.1.toInt ∧ u.2.2.1.toInt ≤ 1) ∧ (0 ≤ u.2.2.2.1.toInt ∧ u.2.2.2.1.toInt ≤ 4) ∧ kt_r u.2.2.2.2.1 40 (-1) 80 ∧ kt_r u.2.2.2.2.2.1 81 (-1) 39 ∧ kt_r u.2.2.2.2.2.2.1 4 0 39 ∧ kt_r u.2.2.2.2.2.2.2.1 512 0 39 ∧ kt_r u.2.2.2.2.2.2.2.2.1 512 (-1) 80 ∧ kt_r u.2.2.2.2.2.2.2.2.2.1 512 (-1) 80 ∧ kt_r u.2.2.2.2.2.2.2.2.2.2.1 512 0 4 ∧ kt_r u.2.2.2.2.2.2.2.2.2.2.2.1 2048 0 39 ∧ kt_r u.2.2.2.2.2.2.2.2.2.2.2.2.1 2048 (-1) 80 ∧ kt_r u.2.2.2.2.2.2.2.2.2.2.2.2.2 40 (-1) 80) (fun (u : Int32 × Int32 × Int32 × Int32 × (Nat → Int32) × (Nat → Int32) × (Nat → Int32) × (Nat → Int32) × (Nat → Int32) × (Nat → Int32) × (Nat → Int32) × (Nat → Int32) × (Nat → Int32) × (Nat → Int32)) => [(pl, .inr (4, [.ref la, .ref ru, .ref nw, .ref lo, .int st])), (ru, .inr (6, [.ref la, .ref gr, .ref rk, .ref rs, .ref rt, .int tt, .int kg, .ref rv, .int u.2.2.2.1])), (la, .inr (1, [.int lg, .int lh, .int lt, .int lr, .int lc])), (gr, .inr (0, [.ref gt, .ref gg, .ref gn, .int gs, .int gm])), (gt, .inl (cI, 81, .inl tg)), (gn, .inl (cI, 324, .inl nb)), (nw, .inr (8, [.ref sf, .ref sh, .int u.2.2.1])), (sf, .inl (cI, 40, .inl u.2.2.2.2.1)), (sh, .inl (cI, 81, .inl u.2.2.2.2.2.1)), (rk, .inl (cI, 40, .inl ck)), (rs, .inl (cI, 40, .inl fs)), (rt, .inl (cZ, 40, .inl ft)), (rv, .inl (cI, 4, .inl u.2.2.2.2.2.2.1)), (lo, .inr (3, [.ref l0, .ref l1, .ref l2, .ref l3, .ref l4, .ref l5, .ref l6, .int u.1, .int u.2.1])), (l0, .inl (cI, 512, .inl u.2.2.2.2.2.2.2.1)), (l1, .inl (cI, 512, .inl u.2.2.2.2.2.2.2.2.1)), (l2, .inl (cI, 512, .inl u.2.2.2.2.2.2.2.2.2.1)), (l3, .inl (cI, 512, .inl u.2.2.2.2.2.2.2.2.2.2.1)), (l4, .inl (cI, 2048, .inl u.2.2.2.2.2.2.2.2.2.2.2.1)), (l5, .inl (cI, 2048, .inl u.2.2.2.2.2.2.2.2.2.2.2.2.1)), (l6, .inl (cI, 40, .inl u.2.2.2.2.2.2.2.2.2.2.2.2.2))]) 0 0 := by
  refine kt_Mi.of (cc := cX4_move) (maxL := 5) (ret := some .boolean) (by decide) rfl (Nat.le_of_ble_eq_true rfl) ?_
  intro p e s m below meth c A ls H hAt hP hD hS hl
  obtain ⟨hx, hb, hr, hml, hown, hts, hN, hK, hlk, hnm, hA⟩ := hAt
  have hl : lv_has ls 5 [(0, .ref pl), (1, .int p1), (2, .int p2)] := hl
  have hown : s.vm.findClass RX4 = some m.cls := hown
  have hrx0 := hrx
  have hci0 := hci
  obtain ⟨hgx, hnx, htf, ⟨htP, hP40⟩, hsd_, hkq, hck, hkr⟩ := hrx
  have hgx1 := hgx.1
  have hw_ := hgx.2.1
  have hL_ := hgx.2.2
  have httP : tt.toInt = (P_ : Int) := by rw [htP, kt_nI (by omega)]
  have hwl : (2 ≤ w_ ∧ w_ ≤ 9) ∧ (2 ≤ L_ ∧ L_ ≤ 9) ∧ P_ ≤ 40 := ⟨hw_, hL_, hP40⟩
  obtain ⟨⟨hd_, hs0_, htu_⟩, hst_, hcut, ⟨hA0, hinj0, hA0o⟩, hlog⟩ := hci
  have hlN : ∀ k, k < kn.toInt.toNat → kt_lgl P_ w_ L_ (kt_S (kt_stepf P_ w_ L_ fr fk lt lh) A0_ mv_ k) (mv_ k) := fun k hk => (hlog k (by omega)).1
  have hSr := kt_S_r (N := kn.toInt.toNat) hP40 hw_ hL_ hA0 hlN
  have hSo := kt_S_out (P := P_) (w := w_) (L := L_) (fr := fr) (fk := fk) (A0 := A0_) (mv := mv_) (mkt := lt) (mhd := lh) hA0o
  have hfS : ∀ q, q < P_ → ff q = (kt_S (kt_stepf P_ w_ L_ fr fk lt lh) A0_ mv_ dn.toInt.toNat) q := fun q hq => by rw [← hcut, kt_cut_in hq]
  have hsz := kt_mulb hL_ hw_
  obtain ⟨hlm1, hlp, hlt⟩ := hlm
  have hl1 := hlm1.1
  have hi1 : p1.toInt = (((m_.toInt / 32).toNat : Nat) : Int) := by rw [hlp, kt_nI (by omega)]
  have hq1 : p1.toInt.toNat = (m_.toInt / 32).toNat := by omega
  have hq1c : p1.toNatClampNeg = (m_.toInt / 32).toNat := hq1
  have hp1 : 0 ≤ p1.toInt ∧ p1.toInt < (P_ : Int) := by omega
  have hSd := hSr dn.toInt.toNat (by omega)
  obtain ⟨s1, s2, s3, s4⟩ := kt_stepf_c (fr := fr) (fk := fk) (mkt := lt) (mhd := lh) hP40 hw_ hL_ hSd hlm1
  have hfq : ff (m_.toInt / 32).toNat = (kt_S (kt_stepf P_ w_ L_ fr fk lt lh) A0_ mv_ dn.toInt.toNat) (m_.toInt / 32).toNat := hfS _ (by omega)
  have hp2 : 0 ≤ p2.toInt ∧ p2.toInt < L_ * w_ := by rw [hlt]; exact s2
  have hp2e : p2 = (kt_stepf P_ w_ L_ fr fk lt lh (kt_S (kt_stepf P_ w_ L_ fr fk lt lh) A0_ mv_ dn.toInt.toNat) m_) (m_.toInt / 32).toNat := by rw [s1, ← hlt]; exact kt_nIof (x := p2) hp2.1
  have hfree : ∀ q, q < P_ → ¬ ff q = nI p2.toInt.toNat := fun q hq => by rw [hfS q hq, hlt]; exact hlm1.2.2.2 q hq
  have hxo : 0 ≤ (ff p1.toNatClampNeg).toInt := by rw [hq1c, hfq]; exact hlm1.2.1
  have hmvd := hst_.move hsz.2 hP40 (p := p1.toInt.toNat) (by omega) hxo hp2 hfree
  rw [← kt_nIof (x := p1) hp1.1] at hmvd
  refine lv_aload_n hx hb dX4_move_0 rfl (lv_at hl 0 rfl) ?_
  refine lv_iload_n hx hb dX4_move_1 rfl (lv_at hl 1 rfl) ?_
  refine lv_iload_n hx hb dX4_move_2 rfl (lv_at hl 2 rfl) ?_
  refine kt_bi (wc := [(pl, .inr (4, [.ref la, .ref ru, .ref nw, .ref lo, .int st])), (ru, .inr (6, [.ref la, .ref gr, .ref rk, .ref rs, .ref rt, .int tt, .int kg, .ref rv, .int vc])), (la, .inr (1, [.int lg, .int lh, .int lt, .int lr, .int lc])), (gr, .inr (0, [.ref gt, .ref gg, .ref gn, .int gs, .int gm])), (gt, .inl (cI, 81, .inl tg)), (gn, .inl (cI, 324, .inl nb)), (nw, .inr (8, [.ref sf, .ref sh, .int tu])), (sf, .inl (cI, 40, .inl ff)), (sh, .inl (cI, 81, .inl fh)), (rk, .inl (cI, 40, .inl ck)), (rs, .inl (cI, 40, .inl fs)), (rt, .inl (cZ, 40, .inl ft)), (rv, .inl (cI, 4, .inl fv)), (lo, .inr (3, [.ref l0, .ref l1, .ref l2, .ref l3, .ref l4, .ref l5, .ref l6, .int dn, .int kn])), (l0, .inl (cI, 512, .inl m0)), (l1, .inl (cI, 512, .inl m1)), (l3, .inl (cI, 512, .inl m3)), (l6, .inl (cI, 40, .inl m6))]) (wr := [(l2, .inl (cI, 512, .inl m2)), (l4, .inl (cI, 2048, .inl m4)), (l5, .inl (cI, 2048, .inl m5))]) [0, 1, 2, 3, 4, 5, 6, 7, 8, 9, 10, 11, 12, 13, 14, 15, 17, 20] [16, 18, 19] hP hD hS hA rfl rfl (by decide) (by decide) (by decide) (fun hPc hDc => va_runV (As := [.int p1, .int p2]) (rest := []) ⟨hx, hb, hml, hown, hts⟩ (c_X4_comesBackE l D cI cZ cB H.size pl st ru la gr rk rs rt rv tt kg vc lg lh lt lr lc gt gg gn gs gm tg nb nw sf sh tu ff fh ck fs ft fv lo l0 l1 l2 l3 l4 l5 l6 dn kn m0 m1 m3 m6 w_ L_ P_ gl fk fr A0_ mv_ s0_ m2 m4 m5 (m_.toInt / 8 % 4) (m_.toInt % 8 + 1) p1 p2 hgs hgt hnb hlr htt hkg hvc hff hfh htu hrk hrs hrt hrv (by omega) hm0 hm1 hm3 hm6 hrx0 hci0 hp1 hxo (by rw [hq1c, hfq]; exact ⟨hlt, by omega, hlm1.2.2.1⟩) hfree) (cwV 2 hts gX4_move_X4_comesBack rfl rfl rfl (by decide +kernel) ⟨Nat.le_of_ble_eq_true rfl, Nat.le_of_ble_eq_true rfl⟩) (kt_preV hN hK hPc hDc 0 (ci := 4) (q := (RX4, TX4, 5)) rfl rfl) rfl rfl hl.1 rfl (lv_room (Nat.le_of_ble_eq_true rfl)) dX4_move_3 ⟨Nat.le_of_ble_eq_true rfl, Nat.le_of_ble_eq_true rfl⟩) (fun r_3 u_ H locs hw_3 hP hD hS => ?_)
  obtain ⟨fv2_3, g6_3, vc2_3⟩ := u_
  have hP : va_P D vwCl [(pl, .inr (4, [.ref la, .ref ru, .ref nw, .ref lo, .int st])), (ru, .inr (6, [.ref la, .ref gr, .ref rk, .ref rs, .ref rt, .int tt, .int kg, .ref rv, .int vc2_3])), (la, .inr (1, [.int lg, .int lh, .int lt, .int lr, .int lc])), (gr, .inr (0, [.ref gt, .ref gg, .ref gn, .int gs, .int gm])), (gt, .inl (cI, 81, .inl tg)), (gn, .inl (cI, 324, .inl nb)), (nw, .inr (8, [.ref sf, .ref sh, .int tu])), (sf, .inl (cI, 40, .inl ff)), (sh, .inl (cI, 81, .inl fh)), (rk, .inl (cI, 40, .inl ck)), (rs, .inl (cI, 40, .inl fs)), (rt, .inl (cZ, 40, .inl ft)), (rv, .inl (cI, 4, .inl fv2_3)), (lo, .inr (3, [.ref l0, .ref l1, .ref l2, .ref l3, .ref l4, .ref l5, .ref l6, .int dn, .int kn])), (l0, .inl (cI, 512, .inl m0)), (l1, .inl (cI, 512, .inl m1)), (l2, .inl (cI, 512, .inl m2)), (l3, .inl (cI, 512, .inl m3)), (l4, .inl (cI, 2048, .inl m4)), (l5, .inl (cI, 2048, .inl m5)), (l6, .inl (cI, 40, .inl g6_3))] H := hP.sub [3, 4, 5, 6, 7, 8, 9, 10, 11, 12, 13, 14, 15, 16, 17, 18, 0, 19, 1, 2, 20] rfl
  have hD : va_D A [(pl, .inr (4, [.ref la, .ref ru, .ref nw, .ref lo, .int st])), (ru, .inr (6, [.ref la, .ref gr, .ref rk, .ref rs, .ref rt, .int tt, .int kg, .ref rv, .int vc2_3])), (la, .inr (1, [.int lg, .int lh, .int lt, .int lr, .int lc])), (gr, .inr (0, [.ref gt, .ref gg, .ref gn, .int gs, .int gm])), (gt, .inl (cI, 81, .inl tg)), (gn, .inl (cI, 324, .inl nb)), (nw, .inr (8, [.ref sf, .ref sh, .int tu])), (sf, .inl (cI, 40, .inl ff)), (sh, .inl (cI, 81, .inl fh)), (rk, .inl (cI, 40, .inl ck)), (rs, .inl (cI, 40, .inl fs)), (rt, .inl (cZ, 40, .inl ft)), (rv, .inl (cI, 4, .inl fv2_3)), (lo, .inr (3, [.ref l0, .ref l1, .ref l2, .ref l3, .ref l4, .ref l5, .ref l6, .int dn, .int kn])), (l0, .inl (cI, 512, .inl m0)), (l1, .inl (cI, 512, .inl m1)), (l2, .inl (cI, 512, .inl m2)), (l3, .inl (cI, 512, .inl m3)), (l4, .inl (cI, 2048, .inl m4)), (l5, .inl (cI, 2048, .inl m5)), (l6, .inl (cI, 40, .inl g6_3))] := hD.sub [3, 4, 5, 6, 7, 8, 9, 10, 11, 12, 13, 14, 15, 16, 17, 18, 0, 19, 1, 2, 20] (by decide) rfl
  try dsimp only at hw_3
  rw [hq1] at hw_3
  obtain ⟨hbk, hVL, hrv, hm6, hvc⟩ := hw_3
  refine lv_istore_n (lv' := [(3, .int r_3), (0, .ref pl), (1, .int p1), (2, .int p2)]) hx hb dX4_move_6 rfl hl (by decide) rfl (fun ls hl => ?_)
  refine lv_aload_n hx hb dX4_move_7 rfl (lv_at hl 1 rfl) ?_
  refine va_get (D := D) (ci := 4) (C := RX4) (T := TX4) (N := 5) hx hb hts iw_X4_move_X4 hown hK hP 0 rfl rfl 3 (by decide) (hts (.fieldLink RX4 21 "KingTable$Play" "log" "LKingTable$Log;") (kt_wp_X4_move__X4_move_r1 kt_wm0)) (fun _ h9 => h9) rfl dX4_move_8 ?_
  refine lv_aload_n hx hb dX4_move_11 rfl (lv_at hl 1 rfl) ?_
  refine va_get (D := D) (ci := 4) (C := RX4) (T := TX4) (N := 5) hx hb hts iw_X4_move_X4 hown hK hP 0 rfl rfl 2 (by decide) (hts (.fieldLink RX4 12 "KingTable$Play" "now" "LKingTable$Stand;") (kt_wp_X4_move__X4_move_r1 kt_wm1)) (fun _ h9 => h9) rfl dX4_move_12 ?_
  refine lv_iload_n hx hb dX4_move_15 rfl (lv_at hl 2 rfl) ?_
  refine lv_iload_n hx hb dX4_move_16 rfl (lv_at hl 3 rfl) ?_
  refine lv_aload_n hx hb dX4_move_17 rfl (lv_at hl 1 rfl) ?_
  refine va_get (D := D) (ci := 4) (C := RX4) (T := TX4) (N := 5) hx hb hts iw_X4_move_X4 hown hK hP 0 rfl rfl 1 (by decide) (hts (.fieldLink RX4 33 "KingTable$Play" "rules" "LKingTable$Rules;") (kt_wp_X4_move__X4_move_r1 kt_wm2)) (fun _ h9 => h9) rfl dX4_move_18 ?_
  refine kt_bv (wc := [(lo, .inr (3, [.ref l0, .ref l1, .ref l2, .ref l3, .ref l4, .ref l5, .ref l6, .int dn, .int kn])), (l0, .inl (cI, 512, .inl m0)), (l1, .inl (cI, 512, .inl m1)), (l2, .inl (cI, 512, .inl m2)), (l3, .inl (cI, 512, .inl m3)), (l4, .inl (cI, 2048, .inl m4)), (l5, .inl (cI, 2048, .inl m5)), (nw, .inr (8, [.ref sf, .ref sh, .int tu])), (sf, .inl (cI, 40, .inl ff)), (ru, .inr (6, [.ref la, .ref gr, .ref rk, .ref rs, .ref rt, .int tt, .int kg, .ref rv, .int vc2_3])), (rv, .inl (cI, 4, .inl fv2_3))]) (wr := [(pl, .inr (4, [.ref la, .ref ru, .ref nw, .ref lo, .int st])), (la, .inr (1, [.int lg, .int lh, .int lt, .int lr, .int lc])), (gr, .inr (0, [.ref gt, .ref gg, .ref gn, .int gs, .int gm])), (gt, .inl (cI, 81, .inl tg)), (gn, .inl (cI, 324, .inl nb)), (sh, .inl (cI, 81, .inl fh)), (rk, .inl (cI, 40, .inl ck)), (rs, .inl (cI, 40, .inl fs)), (rt, .inl (cZ, 40, .inl ft)), (l6, .inl (cI, 40, .inl g6_3))]) [13, 14, 15, 16, 17, 18, 19, 6, 7, 1, 12] [0, 2, 3, 4, 5, 8, 9, 10, 11, 20] hP hD hS hA rfl rfl (by decide) (by decide) (by decide) (fun hPc hDc => va_runV (As := [.ref nw, .int p1, .int p2, .ref ru]) (rest := []) ⟨hx, hb, hml, hown, hts⟩ (c_X3_writeE l D cI cZ cB H.size lo l0 l1 l2 l3 l4 l5 l6 dn kn m0 m1 m2 m3 m4 m5 nw sf sh tu ff ru la gr rk rs rt rv tt kg vc2_3 fv2_3 p1 p2 hdn hkn hm0 hm1 hm2 hm3 hm4 hm5 hff hvc hrv (by omega) (by omega)) (cwV 4 hts gX4_move_X3_write rfl rfl rfl (by decide +kernel) ⟨Nat.le_of_ble_eq_true rfl, Nat.le_of_ble_eq_true rfl⟩) (kt_preV hN hK hPc hDc 0 (ci := 3) (q := (RX3, TX3, 9)) rfl rfl) rfl rfl hl.1 rfl (lv_room (Nat.le_of_ble_eq_true rfl)) dX4_move_21 ⟨Nat.le_of_ble_eq_true rfl, Nat.le_of_ble_eq_true rfl⟩) (fun u_ H locs hw_21 hP hD hS => ?_)
  obtain ⟨dn2_21, kn2_21, w0_21, w1_21, w2_21, w3_21, w4_21, w5_21⟩ := u_
  have hP : va_P D vwCl [(pl, .inr (4, [.ref la, .ref ru, .ref nw, .ref lo, .int st])), (ru, .inr (6, [.ref la, .ref gr, .ref rk, .ref rs, .ref rt, .int tt, .int kg, .ref rv, .int vc2_3])), (la, .inr (1, [.int lg, .int lh, .int lt, .int lr, .int lc])), (gr, .inr (0, [.ref gt, .ref gg, .ref gn, .int gs, .int gm])), (gt, .inl (cI, 81, .inl tg)), (gn, .inl (cI, 324, .inl nb)), (nw, .inr (8, [.ref sf, .ref sh, .int tu])), (sf, .inl (cI, 40, .inl ff)), (sh, .inl (cI, 81, .inl fh)), (rk, .inl (cI, 40, .inl ck)), (rs, .inl (cI, 40, .inl fs)), (rt, .inl (cZ, 40, .inl ft)), (rv, .inl (cI, 4, .inl fv2_3)), (lo, .inr (3, [.ref l0, .ref l1, .ref l2, .ref l3, .ref l4, .ref l5, .ref l6, .int dn2_21, .int kn2_21])), (l0, .inl (cI, 512, .inl w0_21)), (l1, .inl (cI, 512, .inl w1_21)), (l2, .inl (cI, 512, .inl w2_21)), (l3, .inl (cI, 512, .inl w3_21)), (l4, .inl (cI, 2048, .inl w4_21)), (l5, .inl (cI, 2048, .inl w5_21)), (l6, .inl (cI, 40, .inl g6_3))] H := hP.sub [0, 19, 1, 2, 3, 4, 17, 18, 5, 6, 7, 8, 20, 10, 11, 12, 13, 14, 15, 16, 9] rfl
  have hD : va_D A [(pl, .inr (4, [.ref la, .ref ru, .ref nw, .ref lo, .int st])), (ru, .inr (6, [.ref la, .ref gr, .ref rk, .ref rs, .ref rt, .int tt, .int kg, .ref rv, .int vc2_3])), (la, .inr (1, [.int lg, .int lh, .int lt, .int lr, .int lc])), (gr, .inr (0, [.ref gt, .ref gg, .ref gn, .int gs, .int gm])), (gt, .inl (cI, 81, .inl tg)), (gn, .inl (cI, 324, .inl nb)), (nw, .inr (8, [.ref sf, .ref sh, .int tu])), (sf, .inl (cI, 40, .inl ff)), (sh, .inl (cI, 81, .inl fh)), (rk, .inl (cI, 40, .inl ck)), (rs, .inl (cI, 40, .inl fs)), (rt, .inl (cZ, 40, .inl ft)), (rv, .inl (cI, 4, .inl fv2_3)), (lo, .inr (3, [.ref l0, .ref l1, .ref l2, .ref l3, .ref l4, .ref l5, .ref l6, .int dn2_21, .int kn2_21])), (l0, .inl (cI, 512, .inl w0_21)), (l1, .inl (cI, 512, .inl w1_21)), (l2, .inl (cI, 512, .inl w2_21)), (l3, .inl (cI, 512, .inl w3_21)), (l4, .inl (cI, 2048, .inl w4_21)), (l5, .inl (cI, 2048, .inl w5_21)), (l6, .inl (cI, 40, .inl g6_3))] := hD.sub [0, 19, 1, 2, 3, 4, 17, 18, 5, 6, 7, 8, 20, 10, 11, 12, 13, 14, 15, 16, 9] (by decide) rfl
  try dsimp only at hw_21
  obtain ⟨⟨hd2, hk2⟩, ⟨hm0, hm1, hm2, hm3, hm4, hm5⟩, ⟨e0, e1, e2, e3⟩, eo, ei⟩ := hw_21
  rw [hq1c] at e1
  refine lv_aload_n hx hb dX4_move_24 rfl (lv_at hl 1 rfl) ?_
  refine va_get (D := D) (ci := 4) (C := RX4) (T := TX4) (N := 5) hx hb hts iw_X4_move_X4 hown hK hP 0 rfl rfl 2 (by decide) (hts (.fieldLink RX4 12 "KingTable$Play" "now" "LKingTable$Stand;") (kt_wp_X4_move__X4_move_r1 kt_wm1)) (fun _ h9 => h9) rfl dX4_move_25 ?_
  refine lv_iload_n hx hb dX4_move_28 rfl (lv_at hl 2 rfl) ?_
  refine lv_iload_n hx hb dX4_move_29 rfl (lv_at hl 3 rfl) ?_
  refine kt_bv (wc := [(nw, .inr (8, [.ref sf, .ref sh, .int tu])), (sf, .inl (cI, 40, .inl ff)), (sh, .inl (cI, 81, .inl fh))]) (wr := [(pl, .inr (4, [.ref la, .ref ru, .ref nw, .ref lo, .int st])), (ru, .inr (6, [.ref la, .ref gr, .ref rk, .ref rs, .ref rt, .int tt, .int kg, .ref rv, .int vc2_3])), (la, .inr (1, [.int lg, .int lh, .int lt, .int lr, .int lc])), (gr, .inr (0, [.ref gt, .ref gg, .ref gn, .int gs, .int gm])), (gt, .inl (cI, 81, .inl tg)), (gn, .inl (cI, 324, .inl nb)), (rk, .inl (cI, 40, .inl ck)), (rs, .inl (cI, 40, .inl fs)), (rt, .inl (cZ, 40, .inl ft)), (rv, .inl (cI, 4, .inl fv2_3)), (lo, .inr (3, [.ref l0, .ref l1, .ref l2, .ref l3, .ref l4, .ref l5, .ref l6, .int dn2_21, .int kn2_21])), (l0, .inl (cI, 512, .inl w0_21)), (l1, .inl (cI, 512, .inl w1_21)), (l2, .inl (cI, 512, .inl w2_21)), (l3, .inl (cI, 512, .inl w3_21)), (l4, .inl (cI, 2048, .inl w4_21)), (l5, .inl (cI, 2048, .inl w5_21)), (l6, .inl (cI, 40, .inl g6_3))]) [6, 7, 8] [0, 1, 2, 3, 4, 5, 9, 10, 11, 12, 13, 14, 15, 16, 17, 18, 19, 20] hP hD hS hA rfl rfl (by decide) (by decide) (by decide) (fun hPc hDc => va_runV (As := [.int p1, .int p2]) (rest := []) ⟨hx, hb, hml, hown, hts⟩ (c_X8_placeE l D cI cZ cB H.size nw sf sh tu ff fh p1 p2 hff hfh (by omega) (by omega)) (cwV 2 hts gX4_move_X8_place rfl rfl rfl (by decide +kernel) ⟨Nat.le_of_ble_eq_true rfl, Nat.le_of_ble_eq_true rfl⟩) (kt_preV hN hK hPc hDc 0 (ci := 8) (q := (RX8, TX8, 3)) rfl rfl) rfl rfl hl.1 rfl (lv_room (Nat.le_of_ble_eq_true rfl)) dX4_move_30 ⟨Nat.le_of_ble_eq_true rfl, Nat.le_of_ble_eq_true rfl⟩) (fun u_ H locs hw_30 hP hD hS => ?_)
  obtain ⟨ff2_30, fh2_30⟩ := u_
  have hP : va_P D vwCl [(pl, .inr (4, [.ref la, .ref ru, .ref nw, .ref lo, .int st])), (ru, .inr (6, [.ref la, .ref gr, .ref rk, .ref rs, .ref rt, .int tt, .int kg, .ref rv, .int vc2_3])), (la, .inr (1, [.int lg, .int lh, .int lt, .int lr, .int lc])), (gr, .inr (0, [.ref gt, .ref gg, .ref gn, .int gs, .int gm])), (gt, .inl (cI, 81, .inl tg)), (gn, .inl (cI, 324, .inl nb)), (nw, .inr (8, [.ref sf, .ref sh, .int tu])), (sf, .inl (cI, 40, .inl ff2_30)), (sh, .inl (cI, 81, .inl fh2_30)), (rk, .inl (cI, 40, .inl ck)), (rs, .inl (cI, 40, .inl fs)), (rt, .inl (cZ, 40, .inl ft)), (rv, .inl (cI, 4, .inl fv2_3)), (lo, .inr (3, [.ref l0, .ref l1, .ref l2, .ref l3, .ref l4, .ref l5, .ref l6, .int dn2_21, .int kn2_21])), (l0, .inl (cI, 512, .inl w0_21)), (l1, .inl (cI, 512, .inl w1_21)), (l2, .inl (cI, 512, .inl w2_21)), (l3, .inl (cI, 512, .inl w3_21)), (l4, .inl (cI, 2048, .inl w4_21)), (l5, .inl (cI, 2048, .inl w5_21)), (l6, .inl (cI, 40, .inl g6_3))] H := hP.sub [0, 1, 2, 3, 4, 5, 18, 19, 20, 6, 7, 8, 9, 10, 11, 12, 13, 14, 15, 16, 17] rfl
  have hD : va_D A [(pl, .inr (4, [.ref la, .ref ru, .ref nw, .ref lo, .int st])), (ru, .inr (6, [.ref la, .ref gr, .ref rk, .ref rs, .ref rt, .int tt, .int kg, .ref rv, .int vc2_3])), (la, .inr (1, [.int lg, .int lh, .int lt, .int lr, .int lc])), (gr, .inr (0, [.ref gt, .ref gg, .ref gn, .int gs, .int gm])), (gt, .inl (cI, 81, .inl tg)), (gn, .inl (cI, 324, .inl nb)), (nw, .inr (8, [.ref sf, .ref sh, .int tu])), (sf, .inl (cI, 40, .inl ff2_30)), (sh, .inl (cI, 81, .inl fh2_30)), (rk, .inl (cI, 40, .inl ck)), (rs, .inl (cI, 40, .inl fs)), (rt, .inl (cZ, 40, .inl ft)), (rv, .inl (cI, 4, .inl fv2_3)), (lo, .inr (3, [.ref l0, .ref l1, .ref l2, .ref l3, .ref l4, .ref l5, .ref l6, .int dn2_21, .int kn2_21])), (l0, .inl (cI, 512, .inl w0_21)), (l1, .inl (cI, 512, .inl w1_21)), (l2, .inl (cI, 512, .inl w2_21)), (l3, .inl (cI, 512, .inl w3_21)), (l4, .inl (cI, 2048, .inl w4_21)), (l5, .inl (cI, 2048, .inl w5_21)), (l6, .inl (cI, 40, .inl g6_3))] := hD.sub [0, 1, 2, 3, 4, 5, 18, 19, 20, 6, 7, 8, 9, 10, 11, 12, 13, 14, 15, 16, 17] (by decide) rfl
  try dsimp only at hw_30
  obtain ⟨⟨hff, hfh⟩, e30, g30⟩ := hw_30
  refine lv_iconst (v := 0) hx hb dX4_move_33 (by decide) ?_
  refine lv_istore (lv' := [(4, .int 0), (3, .int r_3), (0, .ref pl), (1, .int p1), (2, .int p2)]) hx hb dX4_move_34 hl (by decide) rfl (fun ls hl => ?_)
  refine kt_loop (σ := Nat × (Nat → Int32) × (Nat → Int32)) 36 5 (fun u => [(pl, .inr (4, [.ref la, .ref ru, .ref nw, .ref lo, .int st])), (ru, .inr (6, [.ref la, .ref gr, .ref rk, .ref rs, .ref rt, .int tt, .int kg, .ref rv, .int vc2_3])), (la, .inr (1, [.int lg, .int lh, .int lt, .int lr, .int lc])), (gr, .inr (0, [.ref gt, .ref gg, .ref gn, .int gs, .int gm])), (gt, .inl (cI, 81, .inl tg)), (gn, .inl (cI, 324, .inl nb)), (nw, .inr (8, [.ref sf, .ref sh, .int tu])), (sf, .inl (cI, 40, .inl u.2.1)), (sh, .inl (cI, 81, .inl u.2.2)), (rk, .inl (cI, 40, .inl ck)), (rs, .inl (cI, 40, .inl fs)), (rt, .inl (cZ, 40, .inl ft)), (rv, .inl (cI, 4, .inl fv2_3)), (lo, .inr (3, [.ref l0, .ref l1, .ref l2, .ref l3, .ref l4, .ref l5, .ref l6, .int dn2_21, .int kn2_21])), (l0, .inl (cI, 512, .inl w0_21)), (l1, .inl (cI, 512, .inl w1_21)), (l2, .inl (cI, 512, .inl w2_21)), (l3, .inl (cI, 512, .inl w3_21)), (l4, .inl (cI, 2048, .inl w4_21)), (l5, .inl (cI, 2048, .inl w5_21)), (l6, .inl (cI, 40, .inl g6_3))]) (fun u => [(4, .int (nI u.1)), (3, .int r_3), (0, .ref pl), (1, .int p1), (2, .int p2)]) (fun n u => (u.1 ≤ 4 ∧ 4 < u.1 + n ∧ (u.1 : Int) ≤ vc2_3.toInt) ∧ kt_r u.2.1 40 (-1) 80 ∧ kt_r u.2.2 81 (-1) 39 ∧ kt_ST w_ L_ P_ u.2.1 u.2.2 ∧ kt_TK fv2_3 (upd ff p1.toNatClampNeg p2) u.2.1 u.1) (fun u h => by omega) (fun n_36 ih_36 u hI H locs hP hD hS ls hl => ?_) (5) (0, ff2_30, fh2_30) (by show (0 ≤ 4 ∧ 4 < 0 + 5 ∧ (0 : Int) ≤ vc2_3.toInt) ∧ kt_r ff2_30 40 (-1) 80 ∧ kt_r fh2_30 81 (-1) 39 ∧ kt_ST w_ L_ P_ ff2_30 fh2_30 ∧ kt_TK fv2_3 (upd ff p1.toNatClampNeg p2) ff2_30 0; exact ⟨⟨by decide, by decide, by omega⟩, hff, hfh, by rw [e30, g30]; exact hmvd, by rw [e30]; exact fun j hj => ⟨fun ⟨i, h, _⟩ => absurd h (Nat.not_lt_zero i), fun _ => rfl⟩⟩) hP hD hS (lv_sub hl [0, 1, 2, 3, 4] rfl)
  obtain ⟨k, f1, f2⟩ := u
  have hP : va_P D vwCl [(pl, .inr (4, [.ref la, .ref ru, .ref nw, .ref lo, .int st])), (ru, .inr (6, [.ref la, .ref gr, .ref rk, .ref rs, .ref rt, .int tt, .int kg, .ref rv, .int vc2_3])), (la, .inr (1, [.int lg, .int lh, .int lt, .int lr, .int lc])), (gr, .inr (0, [.ref gt, .ref gg, .ref gn, .int gs, .int gm])), (gt, .inl (cI, 81, .inl tg)), (gn, .inl (cI, 324, .inl nb)), (nw, .inr (8, [.ref sf, .ref sh, .int tu])), (sf, .inl (cI, 40, .inl f1)), (sh, .inl (cI, 81, .inl f2)), (rk, .inl (cI, 40, .inl ck)), (rs, .inl (cI, 40, .inl fs)), (rt, .inl (cZ, 40, .inl ft)), (rv, .inl (cI, 4, .inl fv2_3)), (lo, .inr (3, [.ref l0, .ref l1, .ref l2, .ref l3, .ref l4, .ref l5, .ref l6, .int dn2_21, .int kn2_21])), (l0, .inl (cI, 512, .inl w0_21)), (l1, .inl (cI, 512, .inl w1_21)), (l2, .inl (cI, 512, .inl w2_21)), (l3, .inl (cI, 512, .inl w3_21)), (l4, .inl (cI, 2048, .inl w4_21)), (l5, .inl (cI, 2048, .inl w5_21)), (l6, .inl (cI, 40, .inl g6_3))] H := hP
  have hD : va_D A [(pl, .inr (4, [.ref la, .ref ru, .ref nw, .ref lo, .int st])), (ru, .inr (6, [.ref la, .ref gr, .ref rk, .ref rs, .ref rt, .int tt, .int kg, .ref rv, .int vc2_3])), (la, .inr (1, [.int lg, .int lh, .int lt, .int lr, .int lc])), (gr, .inr (0, [.ref gt, .ref gg, .ref gn, .int gs, .int gm])), (gt, .inl (cI, 81, .inl tg)), (gn, .inl (cI, 324, .inl nb)), (nw, .inr (8, [.ref sf, .ref sh, .int tu])), (sf, .inl (cI, 40, .inl f1)), (sh, .inl (cI, 81, .inl f2)), (rk, .inl (cI, 40, .inl ck)), (rs, .inl (cI, 40, .inl fs)), (rt, .inl (cZ, 40, .inl ft)), (rv, .inl (cI, 4, .inl fv2_3)), (lo, .inr (3, [.ref l0, .ref l1, .ref l2, .ref l3, .ref l4, .ref l5, .ref l6, .int dn2_21, .int kn2_21])), (l0, .inl (cI, 512, .inl w0_21)), (l1, .inl (cI, 512, .inl w1_21)), (l2, .inl (cI, 512, .inl w2_21)), (l3, .inl (cI, 512, .inl w3_21)), (l4, .inl (cI, 2048, .inl w4_21)), (l5, .inl (cI, 2048, .inl w5_21)), (l6, .inl (cI, 40, .inl g6_3))] := hD
  have hl : lv_has ls 5 [(4, .int (nI k)), (3, .int r_3), (0, .ref pl), (1, .int p1), (2, .int p2)] := hl
  have hI : (k ≤ 4 ∧ 4 < k + (n_36 + 1) ∧ (k : Int) ≤ vc2_3.toInt) ∧ kt_r f1 40 (-1) 80 ∧ kt_r f2 81 (-1) 39 ∧ kt_ST w_ L_ P_ f1 f2 ∧ kt_TK fv2_3 (upd ff p1.toNatClampNeg p2) f1 k := hI
  obtain ⟨hkb, hff, hfh, hstk, hTK⟩ := hI
  have hk0 := kt_nI (n := k) (by omega)
  refine lv_iload hx hb dX4_move_36 (lv_at hl 0 rfl) ?_
  refine lv_aload_n hx hb dX4_move_38 rfl (lv_at hl 2 rfl) ?_
  refine va_get (D := D) (ci := 4) (C := RX4) (T := TX4) (N := 5) hx hb hts iw_X4_move_X4 hown hK hP 0 rfl rfl 1 (by decide) (hts (.fieldLink RX4 33 "KingTable$Play" "rules" "LKingTable$Rules;") (kt_wp_X4_move__X4_move_r1 kt_wm2)) (fun _ h9 => h9) rfl dX4_move_39 ?_
  refine va_getN (D := D) (ci := 6) (C := RX6) (T := TX6) (N := 9) hx hb hts iw_X4_move_X6 hown hK hP 1 rfl rfl 8 (by decide) (va_Nw.use (w := .fieldLinkNest RX4 175 "KingTable$Rules" "victimCount" "I" "KingTable") rfl (hN _ (by decide +kernel))) (fun _ h9 => h9) rfl dX4_move_42 ?_
  refine lv_icmp_ge (tgt := 72) hx hb dX4_move_45 (by decide) (fun c_45 => ?_) (fun c_45 => ?_)
  · have d_45 := c_45
    simp only [kt_lt, kt_le, kt_eq, kt_c0, kt_c1, kt_c2, kt_c3, kt_c4, kt_c8, kt_c9, kt_cm1, kt_c81, kt_c40, kt_c7, kt_c5, kt_c6, kt_c512, kt_c10, kt_c10000] at d_45
    have hkv : k = vc2_3.toInt.toNat := by omega
    rw [hkv] at hTK
    have hcut2 : kt_cut P_ f1 = (kt_stepf P_ w_ L_ fr fk lt lh (kt_S (kt_stepf P_ w_ L_ fr fk lt lh) A0_ mv_ dn.toInt.toNat) m_) := kt_TK.mk (p := (m_.toInt / 32).toNat) (T := p2) hfS (hSo dn.toInt.toNat) hP40 hsz.2 (by omega) hlt hp2 hVL (by rw [← hq1c]; exact hTK)
    refine lv_aload_n hx hb dX4_move_72 rfl (lv_at hl 2 rfl) ?_
    refine va_get (D := D) (ci := 4) (C := RX4) (T := TX4) (N := 5) hx hb hts iw_X4_move_X4 hown hK hP 0 rfl rfl 2 (by decide) (hts (.fieldLink RX4 12 "KingTable$Play" "now" "LKingTable$Stand;") (kt_wp_X4_move__X4_move_r1 kt_wm1)) (fun _ h9 => h9) rfl dX4_move_73 ?_
    refine lv_iconst (v := 1) hx hb dX4_move_76 (by decide) ?_
    refine lv_aload_n hx hb dX4_move_77 rfl (lv_at hl 2 rfl) ?_
    refine va_get (D := D) (ci := 4) (C := RX4) (T := TX4) (N := 5) hx hb hts iw_X4_move_X4 hown hK hP 0 rfl rfl 2 (by decide) (hts (.fieldLink RX4 12 "KingTable$Play" "now" "LKingTable$Stand;") (kt_wp_X4_move__X4_move_r1 kt_wm1)) (fun _ h9 => h9) rfl dX4_move_78 ?_
    refine va_getN (D := D) (ci := 8) (C := RX8) (T := TX8) (N := 3) hx hb hts iw_X4_move_X8 hown hK hP 6 rfl rfl 2 (by decide) (va_Nw.use (w := .fieldLinkNest RX4 82 "KingTable$Stand" "turn" "I" "KingTable") rfl (hN _ (by decide +kernel))) (fun _ h9 => h9) rfl dX4_move_81 ?_
    refine lv_isub hx hb dX4_move_84 ?_
    refine lv_topi (fun t_84 et_84 => ?_)
    first | have hk_84 := kt_subx et_84 (by first | omega | (simp only [kt_c0, kt_c1, kt_c2, kt_c3, kt_c4, kt_c8, kt_c9, kt_cm1, kt_c81, kt_c40, kt_c7, kt_c5, kt_c6, kt_c512, kt_c10, kt_c10000]; omega)) (by first | omega | (simp only [kt_c0, kt_c1, kt_c2, kt_c3, kt_c4, kt_c8, kt_c9, kt_cm1, kt_c81, kt_c40, kt_c7, kt_c5, kt_c6, kt_c512, kt_c10, kt_c10000]; omega)) | obtain ⟨k_84, hk_84, hm_84, hM_84⟩ := kt_subk et_84
    try simp only [kt_c0, kt_c1, kt_c2, kt_c3, kt_c4, kt_c8, kt_c9, kt_cm1, kt_c81, kt_c40, kt_c7, kt_c5, kt_c6, kt_c512, kt_c10, kt_c10000] at hk_84
    refine va_putN (D := D) (ci := 8) (v := .int t_84) (ty := .int) (C := RX8) (T := TX8) (N := 3) hx hb hts iw_X4_move_X8 tyX8 tyX8_ok nmX8 hown hK hP hD hS 6 rfl rfl 2 (by decide) (va_Nw.use (w := .fieldLinkNest RX4 82 "KingTable$Stand" "turn" "I" "KingTable") rfl (hN _ (by decide +kernel))) (fun _ h9 => h9) rfl (by decide +kernel) rfl rfl (Nat.le_of_ble_eq_true rfl) dX4_move_85 (fun H locs hP hD hS => ?_)
    have hP : va_P D vwCl [(pl, .inr (4, [.ref la, .ref ru, .ref nw, .ref lo, .int st])), (ru, .inr (6, [.ref la, .ref gr, .ref rk, .ref rs, .ref rt, .int tt, .int kg, .ref rv, .int vc2_3])), (la, .inr (1, [.int lg, .int lh, .int lt, .int lr, .int lc])), (gr, .inr (0, [.ref gt, .ref gg, .ref gn, .int gs, .int gm])), (gt, .inl (cI, 81, .inl tg)), (gn, .inl (cI, 324, .inl nb)), (nw, .inr (8, [.ref sf, .ref sh, .int t_84])), (sf, .inl (cI, 40, .inl f1)), (sh, .inl (cI, 81, .inl f2)), (rk, .inl (cI, 40, .inl ck)), (rs, .inl (cI, 40, .inl fs)), (rt, .inl (cZ, 40, .inl ft)), (rv, .inl (cI, 4, .inl fv2_3)), (lo, .inr (3, [.ref l0, .ref l1, .ref l2, .ref l3, .ref l4, .ref l5, .ref l6, .int dn2_21, .int kn2_21])), (l0, .inl (cI, 512, .inl w0_21)), (l1, .inl (cI, 512, .inl w1_21)), (l2, .inl (cI, 512, .inl w2_21)), (l3, .inl (cI, 512, .inl w3_21)), (l4, .inl (cI, 2048, .inl w4_21)), (l5, .inl (cI, 2048, .inl w5_21)), (l6, .inl (cI, 40, .inl g6_3))] H := hP
    have hD : va_D A [(pl, .inr (4, [.ref la, .ref ru, .ref nw, .ref lo, .int st])), (ru, .inr (6, [.ref la, .ref gr, .ref rk, .ref rs, .ref rt, .int tt, .int kg, .ref rv, .int vc2_3])), (la, .inr (1, [.int lg, .int lh, .int lt, .int lr, .int lc])), (gr, .inr (0, [.ref gt, .ref gg, .ref gn, .int gs, .int gm])), (gt, .inl (cI, 81, .inl tg)), (gn, .inl (cI, 324, .inl nb)), (nw, .inr (8, [.ref sf, .ref sh, .int t_84])), (sf, .inl (cI, 40, .inl f1)), (sh, .inl (cI, 81, .inl f2)), (rk, .inl (cI, 40, .inl ck)), (rs, .inl (cI, 40, .inl fs)), (rt, .inl (cZ, 40, .inl ft)), (rv, .inl (cI, 4, .inl fv2_3)), (lo, .inr (3, [.ref l0, .ref l1, .ref l2, .ref l3, .ref l4, .ref l5, .ref l6, .int dn2_21, .int kn2_21])), (l0, .inl (cI, 512, .inl w0_21)), (l1, .inl (cI, 512, .inl w1_21)), (l2, .inl (cI, 512, .inl w2_21)), (l3, .inl (cI, 512, .inl w3_21)), (l4, .inl (cI, 2048, .inl w4_21)), (l5, .inl (cI, 2048, .inl w5_21)), (l6, .inl (cI, 40, .inl g6_3))] := hD
    have hCI2 := hci0.step (m := m_) (p1 := p1) (p2 := p2) (fv := fv2_3) (tu2 := t_84) hP40 hw_ hL_ (by omega) hlm1 hlp hp2e hor hd2 hk2 (by omega) e0 e1 e2 e3 eo ei hvc hVL hstk hcut2
    refine lv_iload_n hx hb dX4_move_88 rfl (lv_at hl 1 rfl) ?_
    exact kt_rz (dn2_21, kn2_21, t_84, vc2_3, f1, f2, fv2_3, w0_21, w1_21, w2_21, w3_21, w4_21, w5_21, g6_3) hx hb hr hlk hS dX4_move_89 hP hD (by show kt_B r_3 (∃ k : Nat, k < dn.toInt.toNat + 1 ∧ (kt_S (kt_stepf P_ w_ L_ fr fk lt lh) A0_ mv_ k) = (kt_stepf P_ w_ L_ fr fk lt lh (kt_S (kt_stepf P_ w_ L_ fr fk lt lh) A0_ mv_ dn.toInt.toNat) m_) ∧ kt_sdk s0_ k = kt_sdk s0_ (dn.toInt.toNat + 1)) ∧ (dn2_21.toInt = dn.toInt + 1 ∧ (kn.toInt ≤ dn.toInt → kn2_21.toInt = dn.toInt + 1) ∧ (dn.toInt < kn.toInt → kn2_21 = kn)) ∧ kt_CI w_ L_ P_ fr fk lt lh A0_ (upd mv_ dn.toInt.toNat m_) s0_ dn2_21 kn2_21 t_84 f1 f2 w0_21 w1_21 w2_21 w3_21 w4_21 w5_21 ∧ (0 ≤ dn2_21.toInt ∧ dn2_21.toInt ≤ 512) ∧ (0 ≤ kn2_21.toInt ∧ kn2_21.toInt ≤ 512) ∧ (0 ≤ t_84.toInt ∧ t_84.toInt ≤ 1) ∧ (0 ≤ vc2_3.toInt ∧ vc2_3.toInt ≤ 4) ∧ kt_r f1 40 (-1) 80 ∧ kt_r f2 81 (-1) 39 ∧ kt_r fv2_3 4 0 39 ∧ kt_r w0_21 512 0 39 ∧ kt_r w1_21 512 (-1) 80 ∧ kt_r w2_21 512 (-1) 80 ∧ kt_r w3_21 512 0 4 ∧ kt_r w4_21 2048 0 39 ∧ kt_r w5_21 2048 (-1) 80 ∧ kt_r g6_3 40 (-1) 80; exact ⟨hbk, ⟨hd2, hk2⟩, hCI2, by omega, by have := hCI2.1.1; omega, by omega, hvc, hff, hfh, hrv, hm0, hm1, hm2, hm3, hm4, hm5, hm6⟩) (by exact hbk.z)
  · have d_45 := c_45
    simp only [kt_lt, kt_le, kt_eq, kt_c0, kt_c1, kt_c2, kt_c3, kt_c4, kt_c8, kt_c9, kt_cm1, kt_c81, kt_c40, kt_c7, kt_c5, kt_c6, kt_c512, kt_c10, kt_c10000] at d_45
    refine lv_aload_n hx hb dX4_move_48 rfl (lv_at hl 2 rfl) ?_
    refine va_get (D := D) (ci := 4) (C := RX4) (T := TX4) (N := 5) hx hb hts iw_X4_move_X4 hown hK hP 0 rfl rfl 2 (by decide) (hts (.fieldLink RX4 12 "KingTable$Play" "now" "LKingTable$Stand;") (kt_wp_X4_move__X4_move_r1 kt_wm1)) (fun _ h9 => h9) rfl dX4_move_49 ?_
    refine lv_aload_n hx hb dX4_move_52 rfl (lv_at hl 2 rfl) ?_
    refine va_get (D := D) (ci := 4) (C := RX4) (T := TX4) (N := 5) hx hb hts iw_X4_move_X4 hown hK hP 0 rfl rfl 1 (by decide) (hts (.fieldLink RX4 33 "KingTable$Play" "rules" "LKingTable$Rules;") (kt_wp_X4_move__X4_move_r1 kt_wm2)) (fun _ h9 => h9) rfl dX4_move_53 ?_
    refine va_getN (D := D) (ci := 6) (C := RX6) (T := TX6) (N := 9) hx hb hts iw_X4_move_X6 hown hK hP 1 rfl rfl 7 (by decide) (va_Nw.use (w := .fieldLinkNest RX4 178 "KingTable$Rules" "victims" "[I" "KingTable") rfl (hN _ (by decide +kernel))) (fun _ h9 => h9) rfl dX4_move_56 ?_
    refine lv_iload hx hb dX4_move_59 (lv_at hl 0 rfl) ?_
    have hi_1 : vp_in (nI k) 4 := by exact kt_in (by omega) (by omega)
    refine va_iald hx hb hK hP 12 0 rfl rfl hi_1 dX4_move_61 ?_
    refine lv_topi (fun a_61 ea_61 => ?_)
    have ra_61 := hrv.get hi_1
    rw [← ea_61] at ra_61
    obtain ⟨v_, hv1, hv2, hv3, hv4⟩ := hVL.2.1 k (by omega)
    have e61 : fv2_3 k = nI v_ := hv2
    have c61 : a_61.toNatClampNeg = v_ := by rw [ea_61, nI_clamp (by omega), e61, nI_clamp (by omega)]
    have i61 : a_61.toInt = ((v_ : Nat) : Int) := by rw [ea_61, nI_clamp (by omega), e61, kt_nI (by omega)]
    have hvne : v_ ≠ (m_.toInt / 32).toNat := fun e => by
      have h5 := hv4.2
      rw [e] at h5
      have h6 := s1
      rw [show (kt_stepf P_ w_ L_ fr fk lt lh (kt_S (kt_stepf P_ w_ L_ fr fk lt lh) A0_ mv_ dn.toInt.toNat) m_) (m_.toInt / 32).toNat = -1 from h5] at h6
      exact kt_nIm1 (by omega) h6.symm
    have hf1v : f1 v_ = ff v_ := by
      rw [(hTK v_ hv1).2 (fun ⟨i, b1, b2⟩ => by
        have h5 := hVL.2.2.2 i k (by omega) (by omega)
        rw [b2, e61] at h5
        omega), pk_un (by rw [hq1c]; exact hvne)]
    have hfv0 : 0 ≤ (f1 v_).toInt := by
      rw [hf1v, hfS v_ hv3]
      have h5 := hSd v_ hv3
      have h6 : ¬ ((kt_S (kt_stepf P_ w_ L_ fr fk lt lh) A0_ mv_ dn.toInt.toNat) v_).toInt = -1 := fun h => hv4.1 ((kt_eq _ _).mpr (h.trans kt_cm1.symm))
      omega
    have hSTt := hstk.take hsz.2 hP40 hv3 hfv0 a_61
    refine lv_iconst (v := (-1)) hx hb dX4_move_62 (by decide) ?_
    refine kt_bv (wc := [(nw, .inr (8, [.ref sf, .ref sh, .int tu])), (sf, .inl (cI, 40, .inl f1)), (sh, .inl (cI, 81, .inl f2))]) (wr := [(pl, .inr (4, [.ref la, .ref ru, .ref nw, .ref lo, .int st])), (ru, .inr (6, [.ref la, .ref gr, .ref rk, .ref rs, .ref rt, .int tt, .int kg, .ref rv, .int vc2_3])), (la, .inr (1, [.int lg, .int lh, .int lt, .int lr, .int lc])), (gr, .inr (0, [.ref gt, .ref gg, .ref gn, .int gs, .int gm])), (gt, .inl (cI, 81, .inl tg)), (gn, .inl (cI, 324, .inl nb)), (rk, .inl (cI, 40, .inl ck)), (rs, .inl (cI, 40, .inl fs)), (rt, .inl (cZ, 40, .inl ft)), (rv, .inl (cI, 4, .inl fv2_3)), (lo, .inr (3, [.ref l0, .ref l1, .ref l2, .ref l3, .ref l4, .ref l5, .ref l6, .int dn2_21, .int kn2_21])), (l0, .inl (cI, 512, .inl w0_21)), (l1, .inl (cI, 512, .inl w1_21)), (l2, .inl (cI, 512, .inl w2_21)), (l3, .inl (cI, 512, .inl w3_21)), (l4, .inl (cI, 2048, .inl w4_21)), (l5, .inl (cI, 2048, .inl w5_21)), (l6, .inl (cI, 40, .inl g6_3))]) [6, 7, 8] [0, 1, 2, 3, 4, 5, 9, 10, 11, 12, 13, 14, 15, 16, 17, 18, 19, 20] hP hD hS hA rfl rfl (by decide) (by decide) (by decide) (fun hPc hDc => va_runV (As := [.int a_61, .int (-1)]) (rest := []) ⟨hx, hb, hml, hown, hts⟩ (c_X8_placeE l D cI cZ cB H.size nw sf sh tu f1 f2 a_61 (-1) hff hfh (by omega) (by decide)) (cwV 2 hts gX4_move_X8_place rfl rfl rfl (by decide +kernel) ⟨Nat.le_of_ble_eq_true rfl, Nat.le_of_ble_eq_true rfl⟩) (kt_preV hN hK hPc hDc 0 (ci := 8) (q := (RX8, TX8, 3)) rfl rfl) rfl rfl hl.1 rfl (lv_room (Nat.le_of_ble_eq_true rfl)) dX4_move_63 ⟨Nat.le_of_ble_eq_true rfl, Nat.le_of_ble_eq_true rfl⟩) (fun u_ H locs hw_63 hP hD hS => ?_)
    obtain ⟨ff2_63, fh2_63⟩ := u_
    have hP : va_P D vwCl [(pl, .inr (4, [.ref la, .ref ru, .ref nw, .ref lo, .int st])), (ru, .inr (6, [.ref la, .ref gr, .ref rk, .ref rs, .ref rt, .int tt, .int kg, .ref rv, .int vc2_3])), (la, .inr (1, [.int lg, .int lh, .int lt, .int lr, .int lc])), (gr, .inr (0, [.ref gt, .ref gg, .ref gn, .int gs, .int gm])), (gt, .inl (cI, 81, .inl tg)), (gn, .inl (cI, 324, .inl nb)), (nw, .inr (8, [.ref sf, .ref sh, .int tu])), (sf, .inl (cI, 40, .inl ff2_63)), (sh, .inl (cI, 81, .inl fh2_63)), (rk, .inl (cI, 40, .inl ck)), (rs, .inl (cI, 40, .inl fs)), (rt, .inl (cZ, 40, .inl ft)), (rv, .inl (cI, 4, .inl fv2_3)), (lo, .inr (3, [.ref l0, .ref l1, .ref l2, .ref l3, .ref l4, .ref l5, .ref l6, .int dn2_21, .int kn2_21])), (l0, .inl (cI, 512, .inl w0_21)), (l1, .inl (cI, 512, .inl w1_21)), (l2, .inl (cI, 512, .inl w2_21)), (l3, .inl (cI, 512, .inl w3_21)), (l4, .inl (cI, 2048, .inl w4_21)), (l5, .inl (cI, 2048, .inl w5_21)), (l6, .inl (cI, 40, .inl g6_3))] H := hP.sub [0, 1, 2, 3, 4, 5, 18, 19, 20, 6, 7, 8, 9, 10, 11, 12, 13, 14, 15, 16, 17] rfl
    have hD : va_D A [(pl, .inr (4, [.ref la, .ref ru, .ref nw, .ref lo, .int st])), (ru, .inr (6, [.ref la, .ref gr, .ref rk, .ref rs, .ref rt, .int tt, .int kg, .ref rv, .int vc2_3])), (la, .inr (1, [.int lg, .int lh, .int lt, .int lr, .int lc])), (gr, .inr (0, [.ref gt, .ref gg, .ref gn, .int gs, .int gm])), (gt, .inl (cI, 81, .inl tg)), (gn, .inl (cI, 324, .inl nb)), (nw, .inr (8, [.ref sf, .ref sh, .int tu])), (sf, .inl (cI, 40, .inl ff2_63)), (sh, .inl (cI, 81, .inl fh2_63)), (rk, .inl (cI, 40, .inl ck)), (rs, .inl (cI, 40, .inl fs)), (rt, .inl (cZ, 40, .inl ft)), (rv, .inl (cI, 4, .inl fv2_3)), (lo, .inr (3, [.ref l0, .ref l1, .ref l2, .ref l3, .ref l4, .ref l5, .ref l6, .int dn2_21, .int kn2_21])), (l0, .inl (cI, 512, .inl w0_21)), (l1, .inl (cI, 512, .inl w1_21)), (l2, .inl (cI, 512, .inl w2_21)), (l3, .inl (cI, 512, .inl w3_21)), (l4, .inl (cI, 2048, .inl w4_21)), (l5, .inl (cI, 2048, .inl w5_21)), (l6, .inl (cI, 40, .inl g6_3))] := hD.sub [0, 1, 2, 3, 4, 5, 18, 19, 20, 6, 7, 8, 9, 10, 11, 12, 13, 14, 15, 16, 17] (by decide) rfl
    try dsimp only at hw_63
    obtain ⟨⟨hff, hfh⟩, e63, g63⟩ := hw_63
    refine lv_iinc (v := nI (k + 1)) (lv' := [(4, .int (nI (k + 1))), (3, .int r_3), (0, .ref pl), (1, .int p1), (2, .int p2)]) hx hb dX4_move_66 hl (k := 0) rfl (nI_1 _) (by decide) rfl (fun ls hl => ?_)
    refine lv_goto (tgt := 36) hx hb dX4_move_69 (by decide) ?_
    exact ih_36 ((k + 1), ff2_63, fh2_63) (by show ((k + 1) ≤ 4 ∧ 4 < (k + 1) + n_36 ∧ ((k + 1) : Int) ≤ vc2_3.toInt) ∧ kt_r ff2_63 40 (-1) 80 ∧ kt_r fh2_63 81 (-1) 39 ∧ kt_ST w_ L_ P_ ff2_63 fh2_63 ∧ kt_TK fv2_3 (upd ff p1.toNatClampNeg p2) ff2_63 (k + 1); exact ⟨by omega, hff, hfh, by rw [e63, g63, c61]; exact hSTt, by rw [e63, c61]; exact hTK.step e61 (by omega)⟩) H _ hP hD hS ls (lv_sub hl [0, 1, 2, 3, 4] rfl)

set_option maxHeartbeats 4000000 in
set_option maxRecDepth 100000 in
theorem c_X3_unwindE (l : Launch) (D : va_G) (cI cZ cB : ClassId) (sz : Nat) (lo : Nat) (l0 : Nat) (l1 : Nat) (l2 : Nat) (l3 : Nat) (l4 : Nat) (l5 : Nat) (l6 : Nat) (dn : Int32) (kn : Int32) (m0 : Nat → Int32) (m1 : Nat → Int32) (m3 : Nat → Int32) (m4 : Nat → Int32) (m5 : Nat → Int32) (nw : Nat) (sf : Nat) (sh : Nat) (tu : Int32) (ff : Nat → Int32) (fh : Nat → Int32) (w_ : Int) (L_ : Int) (P_ : Nat) (fr : Nat → Int32) (fk : Nat → Int32) (A0_ : Nat → Int32) (mv_ : Nat → Int32) (s0_ : Int) (lt : Int32) (lh : Int32) (m2 : Nat → Int32) (hdn : 1 ≤ dn.toInt ∧ dn.toInt ≤ 512) (htu : 0 ≤ tu.toInt ∧ tu.toInt ≤ 1) (hm0 : kt_r m0 512 0 39) (hm1 : kt_r m1 512 (-1) 80) (hm3 : kt_r m3 512 0 4) (hm4 : kt_r m4 2048 0 39) (hm5 : kt_r m5 2048 (-1) 80) (hff : kt_r ff 40 (-1) 80) (hfh : kt_r fh 81 (-1) 39) (hci : kt_CI w_ L_ P_ fr fk lt lh A0_ mv_ s0_ dn kn tu ff fh m0 m1 m2 m3 m4 m5) (hwl : (2 ≤ w_ ∧ w_ ≤ 9) ∧ (2 ≤ L_ ∧ L_ ≤ 9) ∧ P_ ≤ 40) : kt_Mv l yX3_unwind wsX3_unwind { frames := 1, cells := 0, slots := 0, locals := 23 } D (kt_ty cI cZ cB) [.ref lo, .ref nw] sz [(lo, .inr (3, [.ref l0, .ref l1, .ref l2, .ref l3, .ref l4, .ref l5, .ref l6, .int dn, .int kn])), (l0, .inl (cI, 512, .inl m0)), (l1, .inl (cI, 512, .inl m1)), (l3, .inl (cI, 512, .inl m3)), (l4, .inl (cI, 2048, .inl m4)), (l5, .inl (cI, 2048, .inl m5)), (nw, .inr (8, [.ref sf, .ref sh, .int tu])), (sf, .inl (cI, 40, .inl ff)), (sh, .inl (cI, 81, .inl fh))] (fun (u : Int32 × Int32 × (Nat → Int32) × (Nat → Int32)) => u.1.toInt = dn.toInt - 1 ∧ kt_CI w_ L_ P_ fr fk lt lh A0_ mv_ s0_ u.1 kn u.2.1 u.2.2.1 u.2.2.2 m0 m1 m2 m3 m4 m5 ∧ (0 ≤ u.1.toInt ∧ u.1.toInt ≤ 512) ∧ (0 ≤ u.2.1.toInt ∧ u.2.1.toInt ≤ 1) ∧ kt_r u.2.2.1 40 (-1) 80 ∧ kt_r u.2.2.2 81 (-1) 39) (fun (u : Int32 × Int32 × (Nat → Int32) × (Nat → Int32)) => [(lo, .inr (3, [.ref l0, .ref l1, .ref l2, .ref l3, .ref l4, .ref l5, .ref l6, .int u.1, .int kn])), (l0, .inl (cI, 512, .inl m0)), (l1, .inl (cI, 512, .inl m1)), (l3, .inl (cI, 512, .inl m3)), (l4, .inl (cI, 2048, .inl m4)), (l5, .inl (cI, 2048, .inl m5)), (nw, .inr (8, [.ref sf, .ref sh, .int u.2.1])), (sf, .inl (cI, 40, .inl u.2.2.1)), (sh, .inl (cI, 81, .inl u.2.2.2))]) 0 0 := by
  refine kt_Mv.of (cc := cX3_unwind) (maxL := 3) (ret := none) (by decide) rfl (Nat.le_of_ble_eq_true rfl) ?_
  intro p e s m below meth c A ls H hAt hP hD hS hl
  obtain ⟨hx, hb, hr, hml, hown, hts, hN, hK, hlk, hnm, hA⟩ := hAt
  have hl : lv_has ls 3 [(0, .ref lo), (1, .ref nw)] := hl
  have hown : s.vm.findClass RX3 = some m.cls := hown
  have hci0 := hci
  obtain ⟨⟨hd_, hs0_, htu_⟩, hst_, hcut, ⟨hA0, hinj0, hA0o⟩, hlog⟩ := hci
  have hw_ := hwl.1
  have hL_ := hwl.2.1
  have hP40 := hwl.2.2
  have hlN : ∀ k, k < kn.toInt.toNat → kt_lgl P_ w_ L_ (kt_S (kt_stepf P_ w_ L_ fr fk lt lh) A0_ mv_ k) (mv_ k) := fun k hk => (hlog k (by omega)).1
  have hSr := kt_S_r (N := kn.toInt.toNat) hP40 hw_ hL_ hA0 hlN
  have hSo := kt_S_out (P := P_) (w := w_) (L := L_) (fr := fr) (fk := fk) (A0 := A0_) (mv := mv_) (mkt := lt) (mhd := lh) hA0o
  have hfS : ∀ q, q < P_ → ff q = (kt_S (kt_stepf P_ w_ L_ fr fk lt lh) A0_ mv_ dn.toInt.toNat) q := fun q hq => by rw [← hcut, kt_cut_in hq]
  have hsz := kt_mulb hL_ hw_
  have hrec := hlog (dn.toInt.toNat - 1) (by omega)
  have hlg1 := hrec.1
  have hSm := hSr (dn.toInt.toNat - 1) (by omega)
  have eSd : (kt_S (kt_stepf P_ w_ L_ fr fk lt lh) A0_ mv_ dn.toInt.toNat) = kt_stepf P_ w_ L_ fr fk lt lh (kt_S (kt_stepf P_ w_ L_ fr fk lt lh) A0_ mv_ (dn.toInt.toNat - 1)) (mv_ (dn.toInt.toNat - 1)) := by
    show kt_S (kt_stepf P_ w_ L_ fr fk lt lh) A0_ mv_ dn.toInt.toNat = kt_S (kt_stepf P_ w_ L_ fr fk lt lh) A0_ mv_ (dn.toInt.toNat - 1 + 1)
    rw [show dn.toInt.toNat - 1 + 1 = dn.toInt.toNat by omega]
  have hLK := hrec.2
  rw [show dn.toInt.toNat - 1 + 1 = dn.toInt.toNat by omega] at hLK
  obtain ⟨k0, k1, k2, k3, k4, k5⟩ := hLK
  obtain ⟨s1, s2, s3, s4⟩ := kt_stepf_c (fr := fr) (fk := fk) (mkt := lt) (mhd := lh) hP40 hw_ hL_ hSm hlg1
  rw [← eSd] at s1 s3 s4
  have hinjm := kt_S_inj (N := kn.toInt.toNat) hinj0 hlN (dn.toInt.toNat - 1) (by omega)
  have hqP : ((mv_ (dn.toInt.toNat - 1)).toInt / 32).toNat < P_ := by have := hlg1.1; omega
  refine lv_aload_n hx hb dX3_unwind_0 rfl (lv_at hl 0 rfl) ?_
  refine va_get (D := D) (ci := 3) (C := RX3) (T := TX3) (N := 9) hx hb hts iw_X3_unwind_X3 hown hK hP 0 rfl rfl 7 (by decide) (hts (.fieldLink RX3 33 "KingTable$Log" "done" "I") (List.mem_cons_of_mem _ (List.mem_append_left _ (List.mem_append_left _ (List.Mem.head _))))) (fun _ h9 => h9) rfl dX3_unwind_1 ?_
  refine lv_if_gt (tgt := 8) hx hb dX3_unwind_4 (by decide) (fun c_4 => ?_) (fun c_4 => ?_)
  · have d_4 := c_4
    simp only [kt_lt, kt_le, kt_eq, kt_c0, kt_c1, kt_c2, kt_c3, kt_c4, kt_c8, kt_c9, kt_cm1, kt_c81, kt_c40, kt_c7, kt_c5, kt_c6, kt_c512, kt_c10, kt_c10000] at d_4
    refine lv_aload_n hx hb dX3_unwind_8 rfl (lv_at hl 0 rfl) ?_
    refine lv_dup hx hb dX3_unwind_9 rfl ?_
    refine va_get (D := D) (ci := 3) (C := RX3) (T := TX3) (N := 9) hx hb hts iw_X3_unwind_X3 hown hK hP 0 rfl rfl 7 (by decide) (hts (.fieldLink RX3 33 "KingTable$Log" "done" "I") (List.mem_cons_of_mem _ (List.mem_append_left _ (List.mem_append_left _ (List.Mem.head _))))) (fun _ h9 => h9) rfl dX3_unwind_10 ?_
    refine lv_iconst (v := 1) hx hb dX3_unwind_13 (by decide) ?_
    refine lv_isub hx hb dX3_unwind_14 ?_
    refine lv_topi (fun t_14 et_14 => ?_)
    first | have hk_14 := kt_subx et_14 (by first | omega | (simp only [kt_c0, kt_c1, kt_c2, kt_c3, kt_c4, kt_c8, kt_c9, kt_cm1, kt_c81, kt_c40, kt_c7, kt_c5, kt_c6, kt_c512, kt_c10, kt_c10000]; omega)) (by first | omega | (simp only [kt_c0, kt_c1, kt_c2, kt_c3, kt_c4, kt_c8, kt_c9, kt_cm1, kt_c81, kt_c40, kt_c7, kt_c5, kt_c6, kt_c512, kt_c10, kt_c10000]; omega)) | obtain ⟨k_14, hk_14, hm_14, hM_14⟩ := kt_subk et_14
    try simp only [kt_c0, kt_c1, kt_c2, kt_c3, kt_c4, kt_c8, kt_c9, kt_cm1, kt_c81, kt_c40, kt_c7, kt_c5, kt_c6, kt_c512, kt_c10, kt_c10000] at hk_14
    refine va_put (D := D) (ci := 3) (v := .int t_14) (ty := .int) (C := RX3) (T := TX3) (N := 9) hx hb hts iw_X3_unwind_X3 tyX3 tyX3_ok nmX3 hown hK hP hD hS 0 rfl rfl 7 (by decide) (hts (.fieldLink RX3 33 "KingTable$Log" "done" "I") (List.mem_cons_of_mem _ (List.mem_append_left _ (List.mem_append_left _ (List.Mem.head _))))) (fun _ h9 => h9) rfl (by decide +kernel) rfl rfl (Nat.le_of_ble_eq_true rfl) dX3_unwind_15 (fun H locs hP hD hS => ?_)
    have hP : va_P D vwCl [(lo, .inr (3, [.ref l0, .ref l1, .ref l2, .ref l3, .ref l4, .ref l5, .ref l6, .int t_14, .int kn])), (l0, .inl (cI, 512, .inl m0)), (l1, .inl (cI, 512, .inl m1)), (l3, .inl (cI, 512, .inl m3)), (l4, .inl (cI, 2048, .inl m4)), (l5, .inl (cI, 2048, .inl m5)), (nw, .inr (8, [.ref sf, .ref sh, .int tu])), (sf, .inl (cI, 40, .inl ff)), (sh, .inl (cI, 81, .inl fh))] H := hP
    have hD : va_D A [(lo, .inr (3, [.ref l0, .ref l1, .ref l2, .ref l3, .ref l4, .ref l5, .ref l6, .int t_14, .int kn])), (l0, .inl (cI, 512, .inl m0)), (l1, .inl (cI, 512, .inl m1)), (l3, .inl (cI, 512, .inl m3)), (l4, .inl (cI, 2048, .inl m4)), (l5, .inl (cI, 2048, .inl m5)), (nw, .inr (8, [.ref sf, .ref sh, .int tu])), (sf, .inl (cI, 40, .inl ff)), (sh, .inl (cI, 81, .inl fh))] := hD
    refine lv_aload_n hx hb dX3_unwind_18 rfl (lv_at hl 1 rfl) ?_
    refine lv_aload_n hx hb dX3_unwind_19 rfl (lv_at hl 0 rfl) ?_
    refine va_get (D := D) (ci := 3) (C := RX3) (T := TX3) (N := 9) hx hb hts iw_X3_unwind_X3 hown hK hP 0 rfl rfl 0 (by decide) (hts (.fieldLink RX3 9 "KingTable$Log" "movers" "[I") (List.mem_cons_of_mem _ (List.mem_append_left _ (List.mem_append_left _ (List.mem_cons_of_mem _ (List.Mem.head _)))))) (fun _ h9 => h9) rfl dX3_unwind_20 ?_
    refine lv_aload_n hx hb dX3_unwind_23 rfl (lv_at hl 0 rfl) ?_
    refine va_get (D := D) (ci := 3) (C := RX3) (T := TX3) (N := 9) hx hb hts iw_X3_unwind_X3 hown hK hP 0 rfl rfl 7 (by decide) (hts (.fieldLink RX3 33 "KingTable$Log" "done" "I") (List.mem_cons_of_mem _ (List.mem_append_left _ (List.mem_append_left _ (List.Mem.head _))))) (fun _ h9 => h9) rfl dX3_unwind_24 ?_
    have hi_1 : vp_in t_14 512 := by exact kt_in (by omega) (by omega)
    refine va_iald hx hb hK hP 1 0 rfl rfl hi_1 dX3_unwind_27 ?_
    refine lv_topi (fun a_27 ea_27 => ?_)
    have ra_27 := hm0.get hi_1
    rw [← ea_27] at ra_27
    have hd14 : t_14.toInt.toNat = dn.toInt.toNat - 1 := by omega
    have e27 : a_27 = nI ((mv_ (dn.toInt.toNat - 1)).toInt / 32).toNat := by rw [ea_27]; show m0 t_14.toInt.toNat = _; rw [hd14]; exact k0
    have c27 : a_27.toNatClampNeg = ((mv_ (dn.toInt.toNat - 1)).toInt / 32).toNat := by rw [e27, nI_clamp (by omega)]
    have i27 : a_27.toInt = ((((mv_ (dn.toInt.toNat - 1)).toInt / 32).toNat : Nat) : Int) := by rw [e27, kt_nI (by omega)]
    refine lv_aload_n hx hb dX3_unwind_28 rfl (lv_at hl 0 rfl) ?_
    refine va_get (D := D) (ci := 3) (C := RX3) (T := TX3) (N := 9) hx hb hts iw_X3_unwind_X3 hown hK hP 0 rfl rfl 1 (by decide) (hts (.fieldLink RX3 15 "KingTable$Log" "froms" "[I") (List.mem_cons_of_mem _ (List.mem_append_left _ (List.mem_append_left _ (List.mem_cons_of_mem _ (List.mem_cons_of_mem _ (List.Mem.head _))))))) (fun _ h9 => h9) rfl dX3_unwind_29 ?_
    refine lv_aload_n hx hb dX3_unwind_32 rfl (lv_at hl 0 rfl) ?_
    refine va_get (D := D) (ci := 3) (C := RX3) (T := TX3) (N := 9) hx hb hts iw_X3_unwind_X3 hown hK hP 0 rfl rfl 7 (by decide) (hts (.fieldLink RX3 33 "KingTable$Log" "done" "I") (List.mem_cons_of_mem _ (List.mem_append_left _ (List.mem_append_left _ (List.Mem.head _))))) (fun _ h9 => h9) rfl dX3_unwind_33 ?_
    have hi_2 : vp_in t_14 512 := by exact kt_in (by omega) (by omega)
    refine va_iald hx hb hK hP 2 0 rfl rfl hi_2 dX3_unwind_36 ?_
    refine lv_topi (fun a_36 ea_36 => ?_)
    have ra_36 := hm1.get hi_2
    rw [← ea_36] at ra_36
    have e36 : a_36 = (kt_S (kt_stepf P_ w_ L_ fr fk lt lh) A0_ mv_ (dn.toInt.toNat - 1)) ((mv_ (dn.toInt.toNat - 1)).toInt / 32).toNat := by rw [ea_36]; show m1 t_14.toInt.toNat = _; rw [hd14]; exact k1
    have hx0 : 0 ≤ ((kt_S (kt_stepf P_ w_ L_ fr fk lt lh) A0_ mv_ (dn.toInt.toNat - 1)) ((mv_ (dn.toInt.toNat - 1)).toInt / 32).toNat).toInt ∧ ((kt_S (kt_stepf P_ w_ L_ fr fk lt lh) A0_ mv_ (dn.toInt.toNat - 1)) ((mv_ (dn.toInt.toNat - 1)).toInt / 32).toNat).toInt < L_ * w_ := by
      have h5 := hSm _ hqP
      have h6 := hlg1.2.1
      omega
    have ex0 : (kt_S (kt_stepf P_ w_ L_ fr fk lt lh) A0_ mv_ (dn.toInt.toNat - 1)) ((mv_ (dn.toInt.toNat - 1)).toInt / 32).toNat = nI ((kt_S (kt_stepf P_ w_ L_ fr fk lt lh) A0_ mv_ (dn.toInt.toNat - 1)) ((mv_ (dn.toInt.toNat - 1)).toInt / 32).toNat).toInt.toNat := kt_nIof hx0.1
    refine kt_bv (wc := [(nw, .inr (8, [.ref sf, .ref sh, .int tu])), (sf, .inl (cI, 40, .inl ff)), (sh, .inl (cI, 81, .inl fh))]) (wr := [(lo, .inr (3, [.ref l0, .ref l1, .ref l2, .ref l3, .ref l4, .ref l5, .ref l6, .int t_14, .int kn])), (l0, .inl (cI, 512, .inl m0)), (l1, .inl (cI, 512, .inl m1)), (l3, .inl (cI, 512, .inl m3)), (l4, .inl (cI, 2048, .inl m4)), (l5, .inl (cI, 2048, .inl m5))]) [6, 7, 8] [0, 1, 2, 3, 4, 5] hP hD hS hA rfl rfl (by decide) (by decide) (by decide) (fun hPc hDc => va_runV (As := [.int a_27, .int a_36]) (rest := []) ⟨hx, hb, hml, hown, hts⟩ (c_X8_placeE l D cI cZ cB H.size nw sf sh tu ff fh a_27 a_36 hff hfh (by omega) (by omega)) (cwV 2 hts gX3_unwind_X8_place rfl rfl rfl (by decide +kernel) ⟨Nat.le_of_ble_eq_true rfl, Nat.le_of_ble_eq_true rfl⟩) (kt_preV hN hK hPc hDc 0 (ci := 8) (q := (RX8, TX8, 3)) rfl rfl) rfl rfl hl.1 rfl (lv_room (Nat.le_of_ble_eq_true rfl)) dX3_unwind_37 ⟨Nat.le_of_ble_eq_true rfl, Nat.le_of_ble_eq_true rfl⟩) (fun u_ H locs hw_37 hP hD hS => ?_)
    obtain ⟨ff2_37, fh2_37⟩ := u_
    have hP : va_P D vwCl [(lo, .inr (3, [.ref l0, .ref l1, .ref l2, .ref l3, .ref l4, .ref l5, .ref l6, .int t_14, .int kn])), (l0, .inl (cI, 512, .inl m0)), (l1, .inl (cI, 512, .inl m1)), (l3, .inl (cI, 512, .inl m3)), (l4, .inl (cI, 2048, .inl m4)), (l5, .inl (cI, 2048, .inl m5)), (nw, .inr (8, [.ref sf, .ref sh, .int tu])), (sf, .inl (cI, 40, .inl ff2_37)), (sh, .inl (cI, 81, .inl fh2_37))] H := hP.sub [0, 1, 2, 3, 4, 5, 6, 7, 8] rfl
    have hD : va_D A [(lo, .inr (3, [.ref l0, .ref l1, .ref l2, .ref l3, .ref l4, .ref l5, .ref l6, .int t_14, .int kn])), (l0, .inl (cI, 512, .inl m0)), (l1, .inl (cI, 512, .inl m1)), (l3, .inl (cI, 512, .inl m3)), (l4, .inl (cI, 2048, .inl m4)), (l5, .inl (cI, 2048, .inl m5)), (nw, .inr (8, [.ref sf, .ref sh, .int tu])), (sf, .inl (cI, 40, .inl ff2_37)), (sh, .inl (cI, 81, .inl fh2_37))] := hD.sub [0, 1, 2, 3, 4, 5, 6, 7, 8] (by decide) rfl
    try dsimp only at hw_37
    obtain ⟨⟨hff, hfh⟩, e37, g37⟩ := hw_37
    have hST1 : kt_ST w_ L_ P_ ff2_37 fh2_37 := by
      rw [e37, g37, c27, e27, e36]
      refine hst_.move hsz.2 hP40 hqP (by rw [hfS _ hqP, s1, kt_nI (by omega)]; omega) hx0 (fun q hq h => ?_)
      rw [hfS q hq, ← ex0] at h
      by_cases e : q = ((mv_ (dn.toInt.toNat - 1)).toInt / 32).toNat
      · rw [e] at h
        have h5 := hlg1.2.2.2 ((mv_ (dn.toInt.toNat - 1)).toInt / 32).toNat hqP
        exact h5 (by rw [← s1]; exact h.symm)
      · rcases s3 q hq e with h5 | h5
        · rw [h5] at h
          exact e (hinjm q ((mv_ (dn.toInt.toNat - 1)).toInt / 32).toNat ((kt_S (kt_stepf P_ w_ L_ fr fk lt lh) A0_ mv_ (dn.toInt.toNat - 1)) ((mv_ (dn.toInt.toNat - 1)).toInt / 32).toNat).toInt.toNat hq hqP (by omega) (by rw [h]; exact ex0) ex0)
        · rw [h5] at h
          have h6 := hx0.1
          rw [← h] at h6
          exact absurd h6 (by decide)
    have hUW1 : kt_UW P_ (kt_S (kt_stepf P_ w_ L_ fr fk lt lh) A0_ mv_ (dn.toInt.toNat - 1)) (kt_S (kt_stepf P_ w_ L_ fr fk lt lh) A0_ mv_ dn.toInt.toNat) (fun i => m4 (4 * (dn.toInt.toNat - 1) + i)) 0 ff2_37 := by
      rw [e37, c27, e36]
      intro j hj
      by_cases e : j = ((mv_ (dn.toInt.toNat - 1)).toInt / 32).toNat
      · rw [e, pk_us]; exact Or.inl rfl
      · rw [pk_un e, hfS j hj]
        rcases s3 j hj e with h5 | h5
        · exact Or.inl h5
        · by_cases e2 : (kt_S (kt_stepf P_ w_ L_ fr fk lt lh) A0_ mv_ (dn.toInt.toNat - 1)) j = -1
          · exact Or.inl (by rw [h5, e2])
          · exact Or.inr ⟨h5, ⟨e2, h5⟩, fun k hk => absurd hk (Nat.not_lt_zero k)⟩
    have hVn : ∀ i : Nat, 0 ≤ i → i < (m3 (dn.toInt.toNat - 1)).toInt.toNat → ∀ j, j < P_ → m4 (4 * (dn.toInt.toNat - 1) + i) = nI j → ff2_37 j = -1 := by
      intro i _ hi j hj he
      obtain ⟨v, b1, b2, b3, b4⟩ := k4.2.1 i hi
      have e5 : v = j := kt_nIinj (by omega) (by omega) (b2.symm.trans he)
      rw [e5] at b4
      have hne : j ≠ ((mv_ (dn.toInt.toNat - 1)).toInt / 32).toNat := fun e => by
        have h5 := b4.2
        rw [e, s1] at h5
        exact kt_nIm1 (by omega) h5
      rw [e37, c27, pk_un hne, hfS j hj]
      exact b4.2
    refine lv_iconst (v := 0) hx hb dX3_unwind_40 (by decide) ?_
    refine lv_istore_n (lv' := [(2, .int 0), (0, .ref lo), (1, .ref nw)]) hx hb dX3_unwind_41 rfl hl (by decide) rfl (fun ls hl => ?_)
    refine kt_loop (σ := Nat × (Nat → Int32) × (Nat → Int32)) 42 3 (fun u => [(lo, .inr (3, [.ref l0, .ref l1, .ref l2, .ref l3, .ref l4, .ref l5, .ref l6, .int t_14, .int kn])), (l0, .inl (cI, 512, .inl m0)), (l1, .inl (cI, 512, .inl m1)), (l3, .inl (cI, 512, .inl m3)), (l4, .inl (cI, 2048, .inl m4)), (l5, .inl (cI, 2048, .inl m5)), (nw, .inr (8, [.ref sf, .ref sh, .int tu])), (sf, .inl (cI, 40, .inl u.2.1)), (sh, .inl (cI, 81, .inl u.2.2))]) (fun u => [(2, .int (nI u.1)), (0, .ref lo), (1, .ref nw)]) (fun n u => (u.1 ≤ 4 ∧ 4 < u.1 + n ∧ (u.1 : Int) ≤ (m3 (dn.toInt.toNat - 1)).toInt) ∧ kt_r u.2.1 40 (-1) 80 ∧ kt_r u.2.2 81 (-1) 39 ∧ kt_ST w_ L_ P_ u.2.1 u.2.2 ∧ kt_UW P_ (kt_S (kt_stepf P_ w_ L_ fr fk lt lh) A0_ mv_ (dn.toInt.toNat - 1)) (kt_S (kt_stepf P_ w_ L_ fr fk lt lh) A0_ mv_ dn.toInt.toNat) (fun i => m4 (4 * (dn.toInt.toNat - 1) + i)) u.1 u.2.1 ∧ ∀ i : Nat, u.1 ≤ i → i < (m3 (dn.toInt.toNat - 1)).toInt.toNat → ∀ j, j < P_ → m4 (4 * (dn.toInt.toNat - 1) + i) = nI j → u.2.1 j = -1) (fun u h => by omega) (fun n_42 ih_42 u hI H locs hP hD hS ls hl => ?_) (5) (0, ff2_37, fh2_37) (by show (0 ≤ 4 ∧ 4 < 0 + 5 ∧ (0 : Int) ≤ (m3 (dn.toInt.toNat - 1)).toInt) ∧ kt_r ff2_37 40 (-1) 80 ∧ kt_r fh2_37 81 (-1) 39 ∧ kt_ST w_ L_ P_ ff2_37 fh2_37 ∧ kt_UW P_ (kt_S (kt_stepf P_ w_ L_ fr fk lt lh) A0_ mv_ (dn.toInt.toNat - 1)) (kt_S (kt_stepf P_ w_ L_ fr fk lt lh) A0_ mv_ dn.toInt.toNat) (fun i => m4 (4 * (dn.toInt.toNat - 1) + i)) 0 ff2_37 ∧ ∀ i : Nat, 0 ≤ i → i < (m3 (dn.toInt.toNat - 1)).toInt.toNat → ∀ j, j < P_ → m4 (4 * (dn.toInt.toNat - 1) + i) = nI j → ff2_37 j = -1; exact ⟨⟨by decide, by decide, by omega⟩, hff, hfh, hST1, hUW1, hVn⟩) hP hD hS (lv_sub hl [0, 1, 2] rfl)
    obtain ⟨k, f, h⟩ := u
    have hP : va_P D vwCl [(lo, .inr (3, [.ref l0, .ref l1, .ref l2, .ref l3, .ref l4, .ref l5, .ref l6, .int t_14, .int kn])), (l0, .inl (cI, 512, .inl m0)), (l1, .inl (cI, 512, .inl m1)), (l3, .inl (cI, 512, .inl m3)), (l4, .inl (cI, 2048, .inl m4)), (l5, .inl (cI, 2048, .inl m5)), (nw, .inr (8, [.ref sf, .ref sh, .int tu])), (sf, .inl (cI, 40, .inl f)), (sh, .inl (cI, 81, .inl h))] H := hP
    have hD : va_D A [(lo, .inr (3, [.ref l0, .ref l1, .ref l2, .ref l3, .ref l4, .ref l5, .ref l6, .int t_14, .int kn])), (l0, .inl (cI, 512, .inl m0)), (l1, .inl (cI, 512, .inl m1)), (l3, .inl (cI, 512, .inl m3)), (l4, .inl (cI, 2048, .inl m4)), (l5, .inl (cI, 2048, .inl m5)), (nw, .inr (8, [.ref sf, .ref sh, .int tu])), (sf, .inl (cI, 40, .inl f)), (sh, .inl (cI, 81, .inl h))] := hD
    have hl : lv_has ls 3 [(2, .int (nI k)), (0, .ref lo), (1, .ref nw)] := hl
    have hI : (k ≤ 4 ∧ 4 < k + (n_42 + 1) ∧ (k : Int) ≤ (m3 (dn.toInt.toNat - 1)).toInt) ∧ kt_r f 40 (-1) 80 ∧ kt_r h 81 (-1) 39 ∧ kt_ST w_ L_ P_ f h ∧ kt_UW P_ (kt_S (kt_stepf P_ w_ L_ fr fk lt lh) A0_ mv_ (dn.toInt.toNat - 1)) (kt_S (kt_stepf P_ w_ L_ fr fk lt lh) A0_ mv_ dn.toInt.toNat) (fun i => m4 (4 * (dn.toInt.toNat - 1) + i)) k f ∧ ∀ i : Nat, k ≤ i → i < (m3 (dn.toInt.toNat - 1)).toInt.toNat → ∀ j, j < P_ → m4 (4 * (dn.toInt.toNat - 1) + i) = nI j → f j = -1 := hI
    obtain ⟨hkb, hff, hfh, hstk, hUW, hnot⟩ := hI
    have hk0 := kt_nI (n := k) (by omega)
    refine lv_iload_n hx hb dX3_unwind_42 rfl (lv_at hl 0 rfl) ?_
    refine lv_aload_n hx hb dX3_unwind_43 rfl (lv_at hl 1 rfl) ?_
    refine va_get (D := D) (ci := 3) (C := RX3) (T := TX3) (N := 9) hx hb hts iw_X3_unwind_X3 hown hK hP 0 rfl rfl 3 (by decide) (hts (.fieldLink RX3 21 "KingTable$Log" "takings" "[I") (List.mem_cons_of_mem _ (List.mem_append_left _ (List.mem_append_left _ (List.mem_cons_of_mem _ (List.mem_cons_of_mem _ (List.mem_cons_of_mem _ (List.Mem.head _)))))))) (fun _ h9 => h9) rfl dX3_unwind_44 ?_
    refine lv_aload_n hx hb dX3_unwind_47 rfl (lv_at hl 1 rfl) ?_
    refine va_get (D := D) (ci := 3) (C := RX3) (T := TX3) (N := 9) hx hb hts iw_X3_unwind_X3 hown hK hP 0 rfl rfl 7 (by decide) (hts (.fieldLink RX3 33 "KingTable$Log" "done" "I") (List.mem_cons_of_mem _ (List.mem_append_left _ (List.mem_append_left _ (List.Mem.head _))))) (fun _ h9 => h9) rfl dX3_unwind_48 ?_
    have hi_3 : vp_in t_14 512 := by exact kt_in (by omega) (by omega)
    refine va_iald hx hb hK hP 3 0 rfl rfl hi_3 dX3_unwind_51 ?_
    refine lv_topi (fun a_51 ea_51 => ?_)
    have ra_51 := hm3.get hi_3
    rw [← ea_51] at ra_51
    have e51 : a_51 = m3 (dn.toInt.toNat - 1) := by rw [ea_51]; show m3 t_14.toInt.toNat = _; rw [hd14]
    have i51 := congrArg Int32.toInt e51
    refine lv_icmp_ge (tgt := 91) hx hb dX3_unwind_52 (by decide) (fun c_52 => ?_) (fun c_52 => ?_)
    · have d_52 := c_52
      simp only [kt_lt, kt_le, kt_eq, kt_c0, kt_c1, kt_c2, kt_c3, kt_c4, kt_c8, kt_c9, kt_cm1, kt_c81, kt_c40, kt_c7, kt_c5, kt_c6, kt_c512, kt_c10, kt_c10000] at d_52
      have hkc : k = (m3 (dn.toInt.toNat - 1)).toInt.toNat := by omega
      rw [hkc] at hUW
      have hall := hUW.done hP40 k4
      have hcut2 : kt_cut P_ f = (kt_S (kt_stepf P_ w_ L_ fr fk lt lh) A0_ mv_ (dn.toInt.toNat - 1)) := by
        funext j
        by_cases e : j < P_
        · rw [kt_cut_in e]; exact hall j e
        · rw [hSo (dn.toInt.toNat - 1) j (by omega)]
          exact if_neg e
      refine lv_aload_n hx hb dX3_unwind_91 rfl (lv_at hl 2 rfl) ?_
      refine lv_iconst (v := 1) hx hb dX3_unwind_92 (by decide) ?_
      refine lv_aload_n hx hb dX3_unwind_93 rfl (lv_at hl 2 rfl) ?_
      refine va_getN (D := D) (ci := 8) (C := RX8) (T := TX8) (N := 3) hx hb hts iw_X3_unwind_X8 hown hK hP 6 rfl rfl 2 (by decide) (va_Nw.use (w := .fieldLinkNest RX3 66 "KingTable$Stand" "turn" "I" "KingTable") rfl (hN _ (by decide +kernel))) (fun _ h9 => h9) rfl dX3_unwind_94 ?_
      refine lv_isub hx hb dX3_unwind_97 ?_
      refine lv_topi (fun t_97 et_97 => ?_)
      first | have hk_97 := kt_subx et_97 (by first | omega | (simp only [kt_c0, kt_c1, kt_c2, kt_c3, kt_c4, kt_c8, kt_c9, kt_cm1, kt_c81, kt_c40, kt_c7, kt_c5, kt_c6, kt_c512, kt_c10, kt_c10000]; omega)) (by first | omega | (simp only [kt_c0, kt_c1, kt_c2, kt_c3, kt_c4, kt_c8, kt_c9, kt_cm1, kt_c81, kt_c40, kt_c7, kt_c5, kt_c6, kt_c512, kt_c10, kt_c10000]; omega)) | obtain ⟨k_97, hk_97, hm_97, hM_97⟩ := kt_subk et_97
      try simp only [kt_c0, kt_c1, kt_c2, kt_c3, kt_c4, kt_c8, kt_c9, kt_cm1, kt_c81, kt_c40, kt_c7, kt_c5, kt_c6, kt_c512, kt_c10, kt_c10000] at hk_97
      refine va_putN (D := D) (ci := 8) (v := .int t_97) (ty := .int) (C := RX8) (T := TX8) (N := 3) hx hb hts iw_X3_unwind_X8 tyX8 tyX8_ok nmX8 hown hK hP hD hS 6 rfl rfl 2 (by decide) (va_Nw.use (w := .fieldLinkNest RX3 66 "KingTable$Stand" "turn" "I" "KingTable") rfl (hN _ (by decide +kernel))) (fun _ h9 => h9) rfl (by decide +kernel) rfl rfl (Nat.le_of_ble_eq_true rfl) dX3_unwind_98 (fun H locs hP hD hS => ?_)
      have hP : va_P D vwCl [(lo, .inr (3, [.ref l0, .ref l1, .ref l2, .ref l3, .ref l4, .ref l5, .ref l6, .int t_14, .int kn])), (l0, .inl (cI, 512, .inl m0)), (l1, .inl (cI, 512, .inl m1)), (l3, .inl (cI, 512, .inl m3)), (l4, .inl (cI, 2048, .inl m4)), (l5, .inl (cI, 2048, .inl m5)), (nw, .inr (8, [.ref sf, .ref sh, .int t_97])), (sf, .inl (cI, 40, .inl f)), (sh, .inl (cI, 81, .inl h))] H := hP
      have hD : va_D A [(lo, .inr (3, [.ref l0, .ref l1, .ref l2, .ref l3, .ref l4, .ref l5, .ref l6, .int t_14, .int kn])), (l0, .inl (cI, 512, .inl m0)), (l1, .inl (cI, 512, .inl m1)), (l3, .inl (cI, 512, .inl m3)), (l4, .inl (cI, 2048, .inl m4)), (l5, .inl (cI, 2048, .inl m5)), (nw, .inr (8, [.ref sf, .ref sh, .int t_97])), (sf, .inl (cI, 40, .inl f)), (sh, .inl (cI, 81, .inl h))] := hD
      exact kt_rv (t_14, t_97, f, h) hx hb hr hlk hS dX3_unwind_101 hP hD (by show t_14.toInt = dn.toInt - 1 ∧ kt_CI w_ L_ P_ fr fk lt lh A0_ mv_ s0_ t_14 kn t_97 f h m0 m1 m2 m3 m4 m5 ∧ (0 ≤ t_14.toInt ∧ t_14.toInt ≤ 512) ∧ (0 ≤ t_97.toInt ∧ t_97.toInt ≤ 1) ∧ kt_r f 40 (-1) 80 ∧ kt_r h 81 (-1) 39; first | (exfalso; omega) | exact ⟨by omega, ⟨⟨by omega, hs0_, by rw [show t_14.toInt.toNat = dn.toInt.toNat - 1 by omega]; have h5 := kt_sdk_s s0_ (dn.toInt.toNat - 1); rw [show dn.toInt.toNat - 1 + 1 = dn.toInt.toNat by omega] at h5; omega⟩, hstk, by rw [show t_14.toInt.toNat = dn.toInt.toNat - 1 by omega]; exact hcut2, ⟨hA0, hinj0, hA0o⟩, hlog⟩, by omega, by omega, hff, hfh⟩)
    · have d_52 := c_52
      simp only [kt_lt, kt_le, kt_eq, kt_c0, kt_c1, kt_c2, kt_c3, kt_c4, kt_c8, kt_c9, kt_cm1, kt_c81, kt_c40, kt_c7, kt_c5, kt_c6, kt_c512, kt_c10, kt_c10000] at d_52
      refine lv_aload_n hx hb dX3_unwind_55 rfl (lv_at hl 2 rfl) ?_
      refine lv_aload_n hx hb dX3_unwind_56 rfl (lv_at hl 1 rfl) ?_
      refine va_get (D := D) (ci := 3) (C := RX3) (T := TX3) (N := 9) hx hb hts iw_X3_unwind_X3 hown hK hP 0 rfl rfl 4 (by decide) (hts (.fieldLink RX3 24 "KingTable$Log" "victims" "[I") (List.mem_cons_of_mem _ (List.mem_append_left _ (List.mem_append_left _ (List.mem_cons_of_mem _ (List.mem_cons_of_mem _ (List.mem_cons_of_mem _ (List.mem_cons_of_mem _ (List.Mem.head _))))))))) (fun _ h9 => h9) rfl dX3_unwind_57 ?_
      refine lv_aload_n hx hb dX3_unwind_60 rfl (lv_at hl 1 rfl) ?_
      refine va_get (D := D) (ci := 3) (C := RX3) (T := TX3) (N := 9) hx hb hts iw_X3_unwind_X3 hown hK hP 0 rfl rfl 7 (by decide) (hts (.fieldLink RX3 33 "KingTable$Log" "done" "I") (List.mem_cons_of_mem _ (List.mem_append_left _ (List.mem_append_left _ (List.Mem.head _))))) (fun _ h9 => h9) rfl dX3_unwind_61 ?_
      refine lv_iconst (v := 4) hx hb dX3_unwind_64 (by decide) ?_
      refine lv_imul hx hb dX3_unwind_65 ?_
      refine lv_topi (fun t_65 et_65 => ?_)
      obtain ⟨k_65, hk_65, hm_65, hM_65⟩ := kt_mulk (C := 4) et_65 (by decide)
      try simp only [kt_c0, kt_c1, kt_c2, kt_c3, kt_c4, kt_c8, kt_c9, kt_cm1, kt_c81, kt_c40, kt_c7, kt_c5, kt_c6, kt_c512, kt_c10, kt_c10000] at hk_65
      refine lv_iload_n hx hb dX3_unwind_66 rfl (lv_at hl 0 rfl) ?_
      refine lv_iadd hx hb dX3_unwind_67 ?_
      refine lv_topi (fun t_67 et_67 => ?_)
      first | have hk_67 := kt_addx et_67 (by first | omega | (simp only [kt_c0, kt_c1, kt_c2, kt_c3, kt_c4, kt_c8, kt_c9, kt_cm1, kt_c81, kt_c40, kt_c7, kt_c5, kt_c6, kt_c512, kt_c10, kt_c10000]; omega)) (by first | omega | (simp only [kt_c0, kt_c1, kt_c2, kt_c3, kt_c4, kt_c8, kt_c9, kt_cm1, kt_c81, kt_c40, kt_c7, kt_c5, kt_c6, kt_c512, kt_c10, kt_c10000]; omega)) | obtain ⟨k_67, hk_67, hm_67, hM_67⟩ := kt_addk et_67
      have hi_4 : vp_in t_67 2048 := by exact kt_in (by omega) (by omega)
      refine va_iald hx hb hK hP 4 0 rfl rfl hi_4 dX3_unwind_68 ?_
      refine lv_topi (fun a_68 ea_68 => ?_)
      have ra_68 := hm4.get hi_4
      rw [← ea_68] at ra_68
      have e68 : a_68 = m4 (4 * (dn.toInt.toNat - 1) + k) := by rw [ea_68, kt_clamp (n := 4 * (dn.toInt.toNat - 1) + k) (by omega)]
      obtain ⟨v_, hv1, hv2, hv3, hv4⟩ := k4.2.1 k (by omega)
      have hv2' : m4 (4 * (dn.toInt.toNat - 1) + k) = nI v_ := hv2
      have c68 : a_68.toNatClampNeg = v_ := by rw [e68, hv2', nI_clamp (by omega)]
      have i68 : a_68.toInt = ((v_ : Nat) : Int) := by rw [e68, hv2', kt_nI (by omega)]
      refine lv_aload_n hx hb dX3_unwind_69 rfl (lv_at hl 1 rfl) ?_
      refine va_get (D := D) (ci := 3) (C := RX3) (T := TX3) (N := 9) hx hb hts iw_X3_unwind_X3 hown hK hP 0 rfl rfl 5 (by decide) (hts (.fieldLink RX3 27 "KingTable$Log" "victimFields" "[I") (List.mem_cons_of_mem _ (List.mem_append_left _ (List.mem_append_left _ (List.mem_cons_of_mem _ (List.mem_cons_of_mem _ (List.mem_cons_of_mem _ (List.mem_cons_of_mem _ (List.mem_cons_of_mem _ (List.Mem.head _)))))))))) (fun _ h9 => h9) rfl dX3_unwind_70 ?_
      refine lv_aload_n hx hb dX3_unwind_73 rfl (lv_at hl 1 rfl) ?_
      refine va_get (D := D) (ci := 3) (C := RX3) (T := TX3) (N := 9) hx hb hts iw_X3_unwind_X3 hown hK hP 0 rfl rfl 7 (by decide) (hts (.fieldLink RX3 33 "KingTable$Log" "done" "I") (List.mem_cons_of_mem _ (List.mem_append_left _ (List.mem_append_left _ (List.Mem.head _))))) (fun _ h9 => h9) rfl dX3_unwind_74 ?_
      refine lv_iconst (v := 4) hx hb dX3_unwind_77 (by decide) ?_
      refine lv_imul hx hb dX3_unwind_78 ?_
      refine lv_topi (fun t_78 et_78 => ?_)
      obtain ⟨k_78, hk_78, hm_78, hM_78⟩ := kt_mulk (C := 4) et_78 (by decide)
      try simp only [kt_c0, kt_c1, kt_c2, kt_c3, kt_c4, kt_c8, kt_c9, kt_cm1, kt_c81, kt_c40, kt_c7, kt_c5, kt_c6, kt_c512, kt_c10, kt_c10000] at hk_78
      refine lv_iload_n hx hb dX3_unwind_79 rfl (lv_at hl 0 rfl) ?_
      refine lv_iadd hx hb dX3_unwind_80 ?_
      refine lv_topi (fun t_80 et_80 => ?_)
      first | have hk_80 := kt_addx et_80 (by first | omega | (simp only [kt_c0, kt_c1, kt_c2, kt_c3, kt_c4, kt_c8, kt_c9, kt_cm1, kt_c81, kt_c40, kt_c7, kt_c5, kt_c6, kt_c512, kt_c10, kt_c10000]; omega)) (by first | omega | (simp only [kt_c0, kt_c1, kt_c2, kt_c3, kt_c4, kt_c8, kt_c9, kt_cm1, kt_c81, kt_c40, kt_c7, kt_c5, kt_c6, kt_c512, kt_c10, kt_c10000]; omega)) | obtain ⟨k_80, hk_80, hm_80, hM_80⟩ := kt_addk et_80
      have hi_5 : vp_in t_80 2048 := by exact kt_in (by omega) (by omega)
      refine va_iald hx hb hK hP 5 0 rfl rfl hi_5 dX3_unwind_81 ?_
      refine lv_topi (fun a_81 ea_81 => ?_)
      have ra_81 := hm5.get hi_5
      rw [← ea_81] at ra_81
      have e81 : a_81 = (kt_S (kt_stepf P_ w_ L_ fr fk lt lh) A0_ mv_ (dn.toInt.toNat - 1)) v_ := by
        rw [ea_81, kt_clamp (n := 4 * (dn.toInt.toNat - 1) + k) (by omega)]
        have h5 := k5 k (by omega)
        have h6 : (m4 (4 * (dn.toInt.toNat - 1) + k)).toInt.toNat = v_ := by rw [hv2', kt_nI (by omega)]; omega
        rw [show m5 (4 * (dn.toInt.toNat - 1) + k) = (kt_S (kt_stepf P_ w_ L_ fr fk lt lh) A0_ mv_ (dn.toInt.toNat - 1)) (m4 (4 * (dn.toInt.toNat - 1) + k)).toInt.toNat from h5, h6]
      have hv0 : 0 ≤ ((kt_S (kt_stepf P_ w_ L_ fr fk lt lh) A0_ mv_ (dn.toInt.toNat - 1)) v_).toInt ∧ ((kt_S (kt_stepf P_ w_ L_ fr fk lt lh) A0_ mv_ (dn.toInt.toNat - 1)) v_).toInt < L_ * w_ := by
        have h5 := hSm _ hv3
        have h6 : ¬ ((kt_S (kt_stepf P_ w_ L_ fr fk lt lh) A0_ mv_ (dn.toInt.toNat - 1)) v_).toInt = -1 := fun h => hv4.1 ((kt_eq _ _).mpr (h.trans kt_cm1.symm))
        omega
      have hfv1 : f v_ = -1 := by
        rcases hUW v_ hv3 with h5 | ⟨h5, -, -⟩
        · exfalso
          have h6 := hnot k (Nat.le_refl k) (by omega) v_ hv3 hv2'
          rw [h5] at h6
          rw [h6] at hv0
          exact absurd hv0.1 (by decide)
        · exact h5
      have hSTp := hstk.put hsz.2 hP40 hv3 hfv1 (T := (kt_S (kt_stepf P_ w_ L_ fr fk lt lh) A0_ mv_ (dn.toInt.toNat - 1)) v_) hv0 (fun q hq h => by
        have ev : (kt_S (kt_stepf P_ w_ L_ fr fk lt lh) A0_ mv_ (dn.toInt.toNat - 1)) v_ = nI ((kt_S (kt_stepf P_ w_ L_ fr fk lt lh) A0_ mv_ (dn.toInt.toNat - 1)) v_).toInt.toNat := kt_nIof hv0.1
        rcases hUW q hq with h5 | ⟨h5, -, -⟩
        · rw [h5] at h
          have h6 := hinjm q v_ ((kt_S (kt_stepf P_ w_ L_ fr fk lt lh) A0_ mv_ (dn.toInt.toNat - 1)) v_).toInt.toNat hq hv3 (by omega) h ev
          rw [h6, hfv1] at h5
          rw [← h5] at hv0
          exact absurd hv0.1 (by decide)
        · rw [h5, ← ev] at h
          rw [← h] at hv0
          exact absurd hv0.1 (by decide))
      have n68 : a_68 = nI v_ := by rw [e68]; exact hv2'
      rw [← n68] at hSTp
      refine kt_bv (wc := [(nw, .inr (8, [.ref sf, .ref sh, .int tu])), (sf, .inl (cI, 40, .inl f)), (sh, .inl (cI, 81, .inl h))]) (wr := [(lo, .inr (3, [.ref l0, .ref l1, .ref l2, .ref l3, .ref l4, .ref l5, .ref l6, .int t_14, .int kn])), (l0, .inl (cI, 512, .inl m0)), (l1, .inl (cI, 512, .inl m1)), (l3, .inl (cI, 512, .inl m3)), (l4, .inl (cI, 2048, .inl m4)), (l5, .inl (cI, 2048, .inl m5))]) [6, 7, 8] [0, 1, 2, 3, 4, 5] hP hD hS hA rfl rfl (by decide) (by decide) (by decide) (fun hPc hDc => va_runV (As := [.int a_68, .int a_81]) (rest := []) ⟨hx, hb, hml, hown, hts⟩ (c_X8_placeE l D cI cZ cB H.size nw sf sh tu f h a_68 a_81 hff hfh (by omega) (by omega)) (cwV 2 hts gX3_unwind_X8_place rfl rfl rfl (by decide +kernel) ⟨Nat.le_of_ble_eq_true rfl, Nat.le_of_ble_eq_true rfl⟩) (kt_preV hN hK hPc hDc 0 (ci := 8) (q := (RX8, TX8, 3)) rfl rfl) rfl rfl hl.1 rfl (lv_room (Nat.le_of_ble_eq_true rfl)) dX3_unwind_82 ⟨Nat.le_of_ble_eq_true rfl, Nat.le_of_ble_eq_true rfl⟩) (fun u_ H locs hw_82 hP hD hS => ?_)
      obtain ⟨ff2_82, fh2_82⟩ := u_
      have hP : va_P D vwCl [(lo, .inr (3, [.ref l0, .ref l1, .ref l2, .ref l3, .ref l4, .ref l5, .ref l6, .int t_14, .int kn])), (l0, .inl (cI, 512, .inl m0)), (l1, .inl (cI, 512, .inl m1)), (l3, .inl (cI, 512, .inl m3)), (l4, .inl (cI, 2048, .inl m4)), (l5, .inl (cI, 2048, .inl m5)), (nw, .inr (8, [.ref sf, .ref sh, .int tu])), (sf, .inl (cI, 40, .inl ff2_82)), (sh, .inl (cI, 81, .inl fh2_82))] H := hP.sub [0, 1, 2, 3, 4, 5, 6, 7, 8] rfl
      have hD : va_D A [(lo, .inr (3, [.ref l0, .ref l1, .ref l2, .ref l3, .ref l4, .ref l5, .ref l6, .int t_14, .int kn])), (l0, .inl (cI, 512, .inl m0)), (l1, .inl (cI, 512, .inl m1)), (l3, .inl (cI, 512, .inl m3)), (l4, .inl (cI, 2048, .inl m4)), (l5, .inl (cI, 2048, .inl m5)), (nw, .inr (8, [.ref sf, .ref sh, .int tu])), (sf, .inl (cI, 40, .inl ff2_82)), (sh, .inl (cI, 81, .inl fh2_82))] := hD.sub [0, 1, 2, 3, 4, 5, 6, 7, 8] (by decide) rfl
      try dsimp only at hw_82
      obtain ⟨⟨hff, hfh⟩, e82, g82⟩ := hw_82
      refine lv_iinc (v := nI (k + 1)) (lv' := [(2, .int (nI (k + 1))), (0, .ref lo), (1, .ref nw)]) hx hb dX3_unwind_85 hl (k := 0) rfl (nI_1 _) (by decide) rfl (fun ls hl => ?_)
      refine lv_goto (tgt := 42) hx hb dX3_unwind_88 (by decide) ?_
      exact ih_42 ((k + 1), ff2_82, fh2_82) (by show ((k + 1) ≤ 4 ∧ 4 < (k + 1) + n_42 ∧ ((k + 1) : Int) ≤ (m3 (dn.toInt.toNat - 1)).toInt) ∧ kt_r ff2_82 40 (-1) 80 ∧ kt_r fh2_82 81 (-1) 39 ∧ kt_ST w_ L_ P_ ff2_82 fh2_82 ∧ kt_UW P_ (kt_S (kt_stepf P_ w_ L_ fr fk lt lh) A0_ mv_ (dn.toInt.toNat - 1)) (kt_S (kt_stepf P_ w_ L_ fr fk lt lh) A0_ mv_ dn.toInt.toNat) (fun i => m4 (4 * (dn.toInt.toNat - 1) + i)) (k + 1) ff2_82 ∧ ∀ i : Nat, (k + 1) ≤ i → i < (m3 (dn.toInt.toNat - 1)).toInt.toNat → ∀ j, j < P_ → m4 (4 * (dn.toInt.toNat - 1) + i) = nI j → ff2_82 j = -1; exact ⟨by omega, hff, hfh, by rw [e82, g82, c68, e81]; exact hSTp, by rw [e82, c68, e81]; exact hUW.step hv3 hv2' hP40, fun i h1 h2 j hj he => by rw [e82, c68, pk_un (fun e => by rw [e, ← hv2'] at he; have h5 := k4.2.2.2 k i (by omega) h2; rw [show (fun i => m4 (4 * (dn.toInt.toNat - 1) + i)) i = (fun i => m4 (4 * (dn.toInt.toNat - 1) + i)) k from he] at h5; omega)]; exact hnot i (by omega) h2 j hj he⟩) H _ hP hD hS ls (lv_sub hl [0, 1, 2] rfl)
  · have d_4 := c_4
    simp only [kt_lt, kt_le, kt_eq, kt_c0, kt_c1, kt_c2, kt_c3, kt_c4, kt_c8, kt_c9, kt_cm1, kt_c81, kt_c40, kt_c7, kt_c5, kt_c6, kt_c512, kt_c10, kt_c10000] at d_4
    exact kt_rv (dn, tu, ff, fh) hx hb hr hlk hS dX3_unwind_7 hP hD (by show dn.toInt = dn.toInt - 1 ∧ kt_CI w_ L_ P_ fr fk lt lh A0_ mv_ s0_ dn kn tu ff fh m0 m1 m2 m3 m4 m5 ∧ (0 ≤ dn.toInt ∧ dn.toInt ≤ 512) ∧ (0 ≤ tu.toInt ∧ tu.toInt ≤ 1) ∧ kt_r ff 40 (-1) 80 ∧ kt_r fh 81 (-1) 39; first | (exfalso; omega) | exact ⟨by omega, ⟨⟨by omega, hs0_, by rw [show t_14.toInt.toNat = dn.toInt.toNat - 1 by omega]; have h5 := kt_sdk_s s0_ (dn.toInt.toNat - 1); rw [show dn.toInt.toNat - 1 + 1 = dn.toInt.toNat by omega] at h5; omega⟩, hstk, by rw [show t_14.toInt.toNat = dn.toInt.toNat - 1 by omega]; exact hcut2, ⟨hA0, hinj0, hA0o⟩, hlog⟩, by omega, by omega, hff, hfh⟩)
