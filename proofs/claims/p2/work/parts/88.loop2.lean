set_option maxHeartbeats 4000000 in
theorem p2_bnd {s : State} {D : va_G} {cI cZ cB : ClassId} {tc kt mx cells slots : Nat} {H : Heap} (h : kt_LI s D cI cZ cB tc kt mx cells slots H) (htc : tc ≤ 512) : cells ≤ 600000 ∧ slots ≤ 7302250 := by
  obtain ⟨to, sg, la, ru, gr, gt, gg, gn, rk, rs, rt, rv, pl, nw, sf, sh, lo, l0, l1, l2, l3, l4, l5, l6, ho, ora, osa, so, tr, tf, th, lk, vp, vd, vt, vg, vw, LW, ve, vo, vq, kh, LH, ks, LS, kx, ms, mk, ma, mo, mg, mm, mt, mn, me, mq, mwo, md, mf, mr, ln, wd, lg, lh, lt, lr, lc, tt, kg, vc, gs, gm, st, tu, dn, kn, qd, pp, ct, sv, tn, us, mho, mpc, msd, mki, mdn, mun, mtk, msv, fg, tg, gl, nb, fk, fs, ft, fv, ff, fh, m0, m1, m2, m3, m4, m5, m6, fr, fz, xf, xh, fp, fd, ta, ga, wo, de, op, qu, he, sr, ne, zk, za, zo, zg, zm, zt, zn, ze, zq, zw, zd, zf, zr, PN, hP, hD, hce, hsl, hln, hwd, hfg, hlr, hgs, hgt, hgg, hnb, htt, hkg, hvc, hrk, hrs, hrt, hrv, hst, hff, hfh, htu, hdn, hkn, hm0, hm1, hm2, hm3, hm4, hm5, hm6, hz0, hgeo, hfr, hlw, hlh, hls, hpp, hwo, hqu, hsr, hne, hxf, hxh, htn, hho, hpi, hbd, hsv, hss⟩ := h
  have hF1 := kt_F_le (M := 10000) hlw
  have hF2 := kt_F_le (M := 118300) hls
  omega
set_option maxHeartbeats 4000000 in
theorem p2_mono {s : State} {D : va_G} {cI cZ cB : ClassId} {tc kt mx cells slots : Nat} {H : Heap} (h : kt_LI s D cI cZ cB tc kt mx cells slots H) : kt_LI s D cI cZ cB (tc + 1) kt mx cells slots H := by
  obtain ⟨to, sg, la, ru, gr, gt, gg, gn, rk, rs, rt, rv, pl, nw, sf, sh, lo, l0, l1, l2, l3, l4, l5, l6, ho, ora, osa, so, tr, tf, th, lk, vp, vd, vt, vg, vw, LW, ve, vo, vq, kh, LH, ks, LS, kx, ms, mk, ma, mo, mg, mm, mt, mn, me, mq, mwo, md, mf, mr, ln, wd, lg, lh, lt, lr, lc, tt, kg, vc, gs, gm, st, tu, dn, kn, qd, pp, ct, sv, tn, us, mho, mpc, msd, mki, mdn, mun, mtk, msv, fg, tg, gl, nb, fk, fs, ft, fv, ff, fh, m0, m1, m2, m3, m4, m5, m6, fr, fz, xf, xh, fp, fd, ta, ga, wo, de, op, qu, he, sr, ne, zk, za, zo, zg, zm, zt, zn, ze, zq, zw, zd, zf, zr, PN, hP, hD, hce, hsl, hln, hwd, hfg, hlr, hgs, hgt, hgg, hnb, htt, hkg, hvc, hrk, hrs, hrt, hrv, hst, hff, hfh, htu, hdn, hkn, hm0, hm1, hm2, hm3, hm4, hm5, hm6, hz0, hgeo, hfr, hlw, hlh, hls, hpp, hwo, hqu, hsr, hne, hxf, hxh, htn, hho, hpi, hbd, hsv, hss⟩ := h
  exact ⟨_, _, _, _, _, _, _, _, _, _, _, _, _, _, _, _, _, _, _, _, _, _, _, _, _, _, _, _, _, _, _, _, _, _, _, _, _, _, _, _, _, _, _, _, _, _, _, _, _, _, _, _, _, _, _, _, _, _, _, _, _, _, _, _, _, _, _, _, _, _, _, _, _, _, _, _, _, _, _, _, _, _, _, _, _, _, _, _, _, _, _, _, _, _, _, _, _, _, _, _, _, _, _, _, _, _, _, _, _, _, _, _, _, _, _, _, _, _, _, _, _, _, _, _, _, _, _, _, _, _, _, _, _, _, _, PN, hP, hD, by first | assumption | omega, by first | assumption | omega, by first | assumption | omega, by first | assumption | omega, by first | assumption | omega, by first | assumption | omega, by first | assumption | omega, by first | assumption | omega, by first | assumption | omega, by first | assumption | omega, by first | assumption | omega, by first | assumption | omega, by first | assumption | omega, by first | assumption | omega, by first | assumption | omega, by first | assumption | omega, by first | assumption | omega, by first | assumption | omega, by first | assumption | omega, by first | assumption | omega, by first | assumption | omega, by first | assumption | omega, by first | assumption | omega, by first | assumption | omega, by first | assumption | omega, by first | assumption | omega, by first | assumption | omega, by first | assumption | omega, by first | assumption | omega, by first | assumption | omega, by first | assumption | omega, by first | assumption | omega, by first | assumption | omega, by first | assumption | omega, by first | assumption | omega, by first | assumption | omega, by first | assumption | omega, by first | assumption | omega, by first | assumption | omega, by first | assumption | omega, by first | assumption | omega, by first | assumption | omega, by first | assumption | omega, by first | assumption | omega, by first | assumption | omega, by first | assumption | omega, by first | assumption | omega, by first | assumption | omega, by first | assumption | omega⟩

set_option maxHeartbeats 8000000 in
set_option maxRecDepth 100000 in
theorem p2_loop {p : Program} {e : Env} {s : State} {m : MethodId} {below : List Frame} {meth : Method} {c : Code} (l : Launch) {b L : Nat} {xs : Nat → Int32} (C0 : lw_At p s m meth c b L xs) (hL : L ≤ 3072) (D : va_G) (cI cZ cB : ClassId) (hN : kt_NW s) (hK : va_K D vwCl (kt_ty cI cZ cB) s) (kt mx : Nat) : ∀ (n tc cells slots : Nat) (ix : Int32) (H : Heap) (locs : List Loc) (ls : Array Slot), 513 ≤ tc + n → ix.toInt = 6 * (tc : Int) → tc ≤ 512 → kt_LI s D cI cZ cB tc kt mx cells slots H → va_S (fun q : Nat => s.heap.size ≤ q) s.heap H locs → lv_has ls 4 [(0, .ref b), (1, .ref kt), (2, .ref mx), (3, .int ix)] → W p l e room_1 s m #[Value.ref b] below meth c H locs cells slots (lw_Z below #[Value.ref b] s) (F0 m 18 ls []) := by
  intro n
  induction n with
  | zero => intro tc cells slots ix H locs ls h1 h2 h3; omega
  | succ n ih =>
    intro tc cells slots ix H locs ls hn hixe htc hLI hS hl
    have C1 := C0
    obtain ⟨hx, hb, hr, hml, hown, hts0, hX, hbl, hlocks, hgv⟩ := C0
    have hts : ∀ w ∈ wsL_law, w.before #[Value.ref b] s = true := fun w h => hts0 w (wsL_law_in w h)
    have hown : s.vm.findClass RL = some m.cls := hown
    have hA : ∀ q : Nat, s.heap.size ≤ q → (fun q : Nat => s.heap.size ≤ q) q := fun _ h => h
    have hbA : ¬ (fun q : Nat => s.heap.size ≤ q) b := Nat.not_le.mpr hbl
    have hcb := p2_bnd hLI htc
    have hLi : (Int32.ofNat L).toInt = (L : Int) := nI_toInt (by omega)
    refine lv_iload_n hx hb dL_law_18 rfl (lv_at hl 3 rfl) ?_
    refine lv_aload_n hx hb dL_law_19 rfl (lv_at hl 0 rfl) ?_
    refine va_slen hx hb hX hbl hbA hS dL_law_20 ?_
    refine lv_bipush (v := 6) hx hb dL_law_21 (by decide) ?_
    refine lv_isub hx hb dL_law_23 ?_
    refine lv_topi (fun t_23 et_23 => ?_)
    first | have hk_23 := kt_subx et_23 (by first | omega | (simp only [kt_c0, kt_c1, kt_c2, kt_c3, kt_c4, kt_c8, kt_c9, kt_cm1, kt_c81, kt_c40, kt_c7, kt_c5, kt_c6, kt_c512, kt_c10, kt_c10000]; omega)) (by first | omega | (simp only [kt_c0, kt_c1, kt_c2, kt_c3, kt_c4, kt_c8, kt_c9, kt_cm1, kt_c81, kt_c40, kt_c7, kt_c5, kt_c6, kt_c512, kt_c10, kt_c10000]; omega)) | obtain ⟨k_23, hk_23, hm_23, hM_23⟩ := kt_subk et_23
    try simp only [kt_c0, kt_c1, kt_c2, kt_c3, kt_c4, kt_c8, kt_c9, kt_cm1, kt_c81, kt_c40, kt_c7, kt_c5, kt_c6, kt_c512, kt_c10, kt_c10000] at hk_23
    
    refine lv_icmp_gt (tgt := 751) hx hb dL_law_24 (by decide) (fun c_24 => ?_) (fun c_24 => ?_)
    · have d_24 := c_24
      simp only [kt_lt, kt_le, kt_eq, kt_c0, kt_c1, kt_c2, kt_c3, kt_c4, kt_c8, kt_c9, kt_cm1, kt_c81, kt_c40, kt_c7, kt_c5, kt_c6, kt_c512, kt_c10, kt_c10000] at d_24
      refine lv_iconst (v := 1) hx hb dL_law_751 (by decide) ?_
      refine va_forget (fun q hq => hS.2.2 q hq) ?_
      refine W.widen (k := 600000) (n := 7302250) hcb.1 hcb.2 ?_
      exact lw_ret hx hb hr hlocks dL_law_752
    · have d_24 := c_24
      simp only [kt_lt, kt_le, kt_eq, kt_c0, kt_c1, kt_c2, kt_c3, kt_c4, kt_c8, kt_c9, kt_cm1, kt_c81, kt_c40, kt_c7, kt_c5, kt_c6, kt_c512, kt_c10, kt_c10000] at d_24
      have hix : 0 ≤ ix.toInt ∧ ix.toInt + 6 ≤ (L : Int) := by omega
      have nx : ∀ (cells slots : Nat) (H : Heap) (locs : List Loc) (ls : Array Slot), kt_LI s D cI cZ cB (tc + 1) kt mx cells slots H → va_S (fun q : Nat => s.heap.size ≤ q) s.heap H locs → lv_has ls 4 [(0, .ref b), (1, .ref kt), (2, .ref mx), (3, .int ix)] → W p l e room_1 s m #[Value.ref b] below meth c H locs cells slots (lw_Z below #[Value.ref b] s) (F0 m 745 ls []) := by
        intro cells slots H locs ls hLI hS hl
        obtain ⟨t_745, et_745⟩ : ∃ y : Int32, y = ix + 6 := ⟨_, rfl⟩
        obtain ⟨k_745, hk_745, hm_745, hM_745⟩ := kt_addk et_745
        try simp only [kt_c0, kt_c1, kt_c2, kt_c3, kt_c4, kt_c8, kt_c9, kt_cm1, kt_c81, kt_c40, kt_c7, kt_c5, kt_c6, kt_c512, kt_c10, kt_c10000] at hk_745
        refine lv_iinc (v := t_745) (lv' := [(3, .int t_745), (0, .ref b), (1, .ref kt), (2, .ref mx)]) hx hb dL_law_745 hl (k := 3) rfl (by rw [et_745]; rfl) (by decide) rfl (fun ls hl => ?_)
        refine lv_goto (tgt := 18) hx hb dL_law_748 (by decide) ?_
        exact ih (tc + 1) _ _ t_745 H _ ls (by omega) (by omega) (by omega) hLI hS (lv_sub hl [1, 2, 3, 0] rfl)
      refine lv_aload_n hx hb dL_law_27 rfl (lv_at hl 0 rfl) ?_
      refine lv_iload_n hx hb dL_law_28 rfl (lv_at hl 3 rfl) ?_
      have hi_1 : vp_in ix L := by exact kt_in (by omega) (by omega)
      refine va_sld hx hb hX hbl hbA hS hi_1 dL_law_29 ?_
      refine lv_topi (fun a_29 ea_29 => ?_)
      refine lv_bipush (v := 31) hx hb dL_law_30 (by decide) ?_
      refine lv_iand hx hb dL_law_32 ?_
      rcases kt_sw (a_29 &&& 31) 23 with hsw | ⟨hsw, hs2⟩
      · refine lv_tableOut (tgt := 745) hx hb dL_law_33 (by omega) (by decide) ?_
        exact nx _ _ H _ ls (p2_mono hLI) hS hl
      · obtain ⟨j, hj, ej⟩ : ∃ j : Nat, j < 23 ∧ a_29 &&& 31 = nI j := ⟨(a_29 &&& 31).toInt.toNat, by omega, kt_nIof (by omega)⟩
        rcases (show j = 0 ∨ j = 1 ∨ j = 2 ∨ j = 3 ∨ j = 4 ∨ j = 5 ∨ j = 6 ∨ j = 7 ∨ j = 8 ∨ j = 9 ∨ j = 10 ∨ j = 11 ∨ j = 12 ∨ j = 13 ∨ j = 14 ∨ j = 15 ∨ j = 16 ∨ j = 17 ∨ j = 18 ∨ j = 19 ∨ j = 20 ∨ j = 21 ∨ j = 22 by omega) with rfl | rfl | rfl | rfl | rfl | rfl | rfl | rfl | rfl | rfl | rfl | rfl | rfl | rfl | rfl | rfl | rfl | rfl | rfl | rfl | rfl | rfl | rfl
        · have ej : a_29 &&& 31 = 0 := ej
          refine lv_tableIn (tgt := 140) (off := 107) hx hb dL_law_33 (by rw [ej]; decide) (by rw [ej]; decide) (by rw [ej]; rfl) (by decide) ?_
          exact p2_case_0 l C1 hL D cI cZ cB hN hK tc kt mx cells slots ix (by omega) (by omega) nx H _ hLI hS ls hl
        · have ej : a_29 &&& 31 = 1 := ej
          refine lv_tableIn (tgt := 173) (off := 140) hx hb dL_law_33 (by rw [ej]; decide) (by rw [ej]; decide) (by rw [ej]; rfl) (by decide) ?_
          exact p2_case_1 l C1 hL D cI cZ cB hN hK tc kt mx cells slots ix (by omega) (by omega) nx H _ hLI hS ls hl
        · have ej : a_29 &&& 31 = 2 := ej
          refine lv_tableIn (tgt := 216) (off := 183) hx hb dL_law_33 (by rw [ej]; decide) (by rw [ej]; decide) (by rw [ej]; rfl) (by decide) ?_
          exact p2_case_2 l C1 hL D cI cZ cB hN hK tc kt mx cells slots ix (by omega) (by omega) nx H _ hLI hS ls hl
        · have ej : a_29 &&& 31 = 3 := ej
          refine lv_tableIn (tgt := 295) (off := 262) hx hb dL_law_33 (by rw [ej]; decide) (by rw [ej]; decide) (by rw [ej]; rfl) (by decide) ?_
          exact p2_case_3 l C1 hL D cI cZ cB hN hK tc kt mx cells slots ix (by omega) (by omega) nx H _ hLI hS ls hl
        · have ej : a_29 &&& 31 = 4 := ej
          refine lv_tableIn (tgt := 318) (off := 285) hx hb dL_law_33 (by rw [ej]; decide) (by rw [ej]; decide) (by rw [ej]; rfl) (by decide) ?_
          exact p2_case_4 l C1 hL D cI cZ cB hN hK tc kt mx cells slots ix (by omega) (by omega) nx H _ hLI hS ls hl
        · have ej : a_29 &&& 31 = 5 := ej
          refine lv_tableIn (tgt := 331) (off := 298) hx hb dL_law_33 (by rw [ej]; decide) (by rw [ej]; decide) (by rw [ej]; rfl) (by decide) ?_
          exact p2_case_5 l C1 hL D cI cZ cB hN hK tc kt mx cells slots ix (by omega) (by omega) nx H _ hLI hS ls hl
        · have ej : a_29 &&& 31 = 6 := ej
          refine lv_tableIn (tgt := 374) (off := 341) hx hb dL_law_33 (by rw [ej]; decide) (by rw [ej]; decide) (by rw [ej]; rfl) (by decide) ?_
          exact p2_case_6 l C1 hL D cI cZ cB hN hK tc kt mx cells slots ix (by omega) (by omega) nx H _ hLI hS ls hl
        · have ej : a_29 &&& 31 = 7 := ej
          refine lv_tableIn (tgt := 417) (off := 384) hx hb dL_law_33 (by rw [ej]; decide) (by rw [ej]; decide) (by rw [ej]; rfl) (by decide) ?_
          exact p2_case_7 l C1 hL D cI cZ cB hN hK tc kt mx cells slots ix (by omega) (by omega) nx H _ hLI hS ls hl
        · have ej : a_29 &&& 31 = 8 := ej
          refine lv_tableIn (tgt := 440) (off := 407) hx hb dL_law_33 (by rw [ej]; decide) (by rw [ej]; decide) (by rw [ej]; rfl) (by decide) ?_
          exact p2_case_8 l C1 hL D cI cZ cB hN hK tc kt mx cells slots ix (by omega) (by omega) nx H _ hLI hS ls hl
        · have ej : a_29 &&& 31 = 9 := ej
          refine lv_tableIn (tgt := 473) (off := 440) hx hb dL_law_33 (by rw [ej]; decide) (by rw [ej]; decide) (by rw [ej]; rfl) (by decide) ?_
          exact p2_case_9 l C1 hL D cI cZ cB hN hK tc kt mx cells slots ix (by omega) (by omega) nx H _ hLI hS ls hl
        · have ej : a_29 &&& 31 = 10 := ej
          refine lv_tableIn (tgt := 496) (off := 463) hx hb dL_law_33 (by rw [ej]; decide) (by rw [ej]; decide) (by rw [ej]; rfl) (by decide) ?_
          exact p2_case_10 l C1 hL D cI cZ cB hN hK tc kt mx cells slots ix (by omega) (by omega) nx H _ hLI hS ls hl
        · have ej : a_29 &&& 31 = 11 := ej
          refine lv_tableIn (tgt := 519) (off := 486) hx hb dL_law_33 (by rw [ej]; decide) (by rw [ej]; decide) (by rw [ej]; rfl) (by decide) ?_
          exact p2_case_11 l C1 hL D cI cZ cB hN hK tc kt mx cells slots ix (by omega) (by omega) nx H _ hLI hS ls hl
        · have ej : a_29 &&& 31 = 12 := ej
          refine lv_tableIn (tgt := 542) (off := 509) hx hb dL_law_33 (by rw [ej]; decide) (by rw [ej]; decide) (by rw [ej]; rfl) (by decide) ?_
          exact p2_case_12 l C1 hL D cI cZ cB hN hK tc kt mx cells slots ix (by omega) (by omega) nx H _ hLI hS ls hl
        · have ej : a_29 &&& 31 = 13 := ej
          refine lv_tableIn (tgt := 555) (off := 522) hx hb dL_law_33 (by rw [ej]; decide) (by rw [ej]; decide) (by rw [ej]; rfl) (by decide) ?_
          exact p2_case_13 l C1 hL D cI cZ cB hN hK tc kt mx cells slots ix (by omega) (by omega) nx H _ hLI hS ls hl
        · have ej : a_29 &&& 31 = 14 := ej
          refine lv_tableIn (tgt := 578) (off := 545) hx hb dL_law_33 (by rw [ej]; decide) (by rw [ej]; decide) (by rw [ej]; rfl) (by decide) ?_
          exact p2_case_14 l C1 hL D cI cZ cB hN hK tc kt mx cells slots ix (by omega) (by omega) nx H _ hLI hS ls hl
        · have ej : a_29 &&& 31 = 15 := ej
          refine lv_tableIn (tgt := 591) (off := 558) hx hb dL_law_33 (by rw [ej]; decide) (by rw [ej]; decide) (by rw [ej]; rfl) (by decide) ?_
          exact p2_case_15 l C1 hL D cI cZ cB hN hK tc kt mx cells slots ix (by omega) (by omega) nx H _ hLI hS ls hl
        · have ej : a_29 &&& 31 = 16 := ej
          refine lv_tableIn (tgt := 604) (off := 571) hx hb dL_law_33 (by rw [ej]; decide) (by rw [ej]; decide) (by rw [ej]; rfl) (by decide) ?_
          exact p2_case_16 l C1 hL D cI cZ cB hN hK tc kt mx cells slots ix (by omega) (by omega) nx H _ hLI hS ls hl
        · have ej : a_29 &&& 31 = 17 := ej
          refine lv_tableIn (tgt := 617) (off := 584) hx hb dL_law_33 (by rw [ej]; decide) (by rw [ej]; decide) (by rw [ej]; rfl) (by decide) ?_
          exact p2_case_17 l C1 hL D cI cZ cB hN hK tc kt mx cells slots ix (by omega) (by omega) nx H _ hLI hS ls hl
        · have ej : a_29 &&& 31 = 18 := ej
          refine lv_tableIn (tgt := 630) (off := 597) hx hb dL_law_33 (by rw [ej]; decide) (by rw [ej]; decide) (by rw [ej]; rfl) (by decide) ?_
          exact p2_case_18 l C1 hL D cI cZ cB hN hK tc kt mx cells slots ix (by omega) (by omega) nx H _ hLI hS ls hl
        · have ej : a_29 &&& 31 = 19 := ej
          refine lv_tableIn (tgt := 643) (off := 610) hx hb dL_law_33 (by rw [ej]; decide) (by rw [ej]; decide) (by rw [ej]; rfl) (by decide) ?_
          exact p2_case_19 l C1 hL D cI cZ cB hN hK tc kt mx cells slots ix (by omega) (by omega) nx H _ hLI hS ls hl
        · have ej : a_29 &&& 31 = 20 := ej
          refine lv_tableIn (tgt := 656) (off := 623) hx hb dL_law_33 (by rw [ej]; decide) (by rw [ej]; decide) (by rw [ej]; rfl) (by decide) ?_
          exact p2_case_20 l C1 hL D cI cZ cB hN hK tc kt mx cells slots ix (by omega) (by omega) nx H _ hLI hS ls hl
        · have ej : a_29 &&& 31 = 21 := ej
          refine lv_tableIn (tgt := 689) (off := 656) hx hb dL_law_33 (by rw [ej]; decide) (by rw [ej]; decide) (by rw [ej]; rfl) (by decide) ?_
          exact p2_case_21 l C1 hL D cI cZ cB hN hK tc kt mx cells slots ix (by omega) (by omega) nx H _ hLI hS ls hl
        · have ej : a_29 &&& 31 = 22 := ej
          refine lv_tableIn (tgt := 712) (off := 679) hx hb dL_law_33 (by rw [ej]; decide) (by rw [ej]; decide) (by rw [ej]; rfl) (by decide) ?_
          exact p2_case_22 l C1 hL D cI cZ cB hN hK tc kt mx cells slots ix (by omega) (by omega) nx H _ hLI hS ls hl
