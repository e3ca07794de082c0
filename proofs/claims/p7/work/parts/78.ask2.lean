set_option maxHeartbeats 4000000 in
set_option maxRecDepth 100000 in
theorem c_X11_aboutX (l : Launch) (D : va_G) (cI cZ cB : ClassId) (sz : Nat) (mx : Nat) (ms : Nat) (mk : Nat) (ma : Nat) (mo : Nat) (mg : Nat) (mm : Nat) (mt : Nat) (mn : Nat) (me : Nat) (mq : Nat) (mwo : Nat) (md : Nat) (mf : Nat) (mr : Nat) (ml : Int32) (mw : Int32) (mgl : Int32) (mhd : Int32) (mre : Int32) (mag : Int32) (mkt : Int32) (mho : Int32) (mpc : Int32) (msd : Int32) (mki : Int32) (mdn : Int32) (mun : Int32) (mtk : Int32) (msv : Int32) (P_ : Nat) (fa : Nat → Int32) (fo : Nat → Int32) (fr : Nat → Int32) (fk : Nat → Int32) (ft : Nat → Int32) (gs_ : Nat → Int32) (mv : Nat → Int32) (p1 : Int32) (hml_ : 2 ≤ ml.toInt ∧ ml.toInt ≤ 9) (hmw : 2 ≤ mw.toInt ∧ mw.toInt ≤ 9) (hho : 0 ≤ mho.toInt ∧ mho.toInt ≤ 4) (hpcx : ¬ mho.toInt = 0 → (P_ : Int) = mpc.toInt ∧ P_ ≤ 40) : kt_Mi l yX11_about wsX11_about { frames := 1, cells := 0, slots := 0, locals := 20 } D (kt_ty cI cZ cB) [.ref mx, .int p1] sz [(mx, .inr (11, [.int ml, .int mw, .ref ms, .int mgl, .int mhd, .int mre, .int mag, .int mkt, .int mho, .int mpc, .int msd, .int mki, .ref mk, .ref ma, .ref mo, .ref mg, .ref mm, .ref mt, .int mdn, .int mun, .ref mn, .int mtk, .ref me, .ref mq, .int msv, .ref mwo, .ref md, .ref mf, .ref mr])), (ma, .inl (cI, 40, .inl fa))] (fun (r : Int32) (u : Unit) => kt_AB p1.toInt mho.toInt (if mho.toInt = 1 then msd.toInt else -1) (if mho.toInt = 0 then 0 else mpc.toInt) (if mho.toInt = 0 then 0 else (kt_ct kt_m1 fa P_ : Int)) (if mho.toInt = 0 then 0 else mdn.toInt) (ml.toInt * mw.toInt) (if mho.toInt = 0 then 0 else mun.toInt) ml.toInt (if mho.toInt = 0 then (-1) else mtk.toInt) r.toInt) (fun (u : Unit) => [(mx, .inr (11, [.int ml, .int mw, .ref ms, .int mgl, .int mhd, .int mre, .int mag, .int mkt, .int mho, .int mpc, .int msd, .int mki, .ref mk, .ref ma, .ref mo, .ref mg, .ref mm, .ref mt, .int mdn, .int mun, .ref mn, .int mtk, .ref me, .ref mq, .int msv, .ref mwo, .ref md, .ref mf, .ref mr])), (ma, .inl (cI, 40, .inl fa))]) 0 0 := by
  refine kt_Mi.of (cc := cX11_about) (maxL := 5) (ret := some .int) (by decide) rfl (Nat.le_of_ble_eq_true rfl) ?_
  intro p e s m below meth c A ls H hAt hP hD hS hl
  obtain ⟨hx, hb, hr, hml, hown, hts, hN, hK, hlk, hnm, hA⟩ := hAt
  have hl : lv_has ls 5 [(0, .ref mx), (1, .int p1)] := hl
  have hown : s.vm.findClass RX11 = some m.cls := hown
  refine lv_aload_n hx hb dX11_about_0 rfl (lv_at hl 0 rfl) ?_
  refine va_get (D := D) (ci := 11) (C := RX11) (T := TX11) (N := 29) hx hb hts iw_X11_about_X11 hown hK hP 0 rfl rfl 8 (by decide) (hts (.fieldLink RX11 73 "KingTableModel" "how" "I") (List.mem_cons_of_mem _ (List.mem_append_left _ (List.Mem.head _)))) (fun _ h9 => h9) rfl dX11_about_1 ?_
  refine kt_join (σ := Int32) 12 5 (fun u => [(mx, .inr (11, [.int ml, .int mw, .ref ms, .int mgl, .int mhd, .int mre, .int mag, .int mkt, .int mho, .int mpc, .int msd, .int mki, .ref mk, .ref ma, .ref mo, .ref mg, .ref mm, .ref mt, .int mdn, .int mun, .ref mn, .int mtk, .ref me, .ref mq, .int msv, .ref mwo, .ref md, .ref mf, .ref mr])), (ma, .inl (cI, 40, .inl fa))]) (fun u => [(0, .ref mx), (1, .int p1)]) (fun u => [.int u]) (fun u => kt_B u (¬ mho.toInt = 0)) (D := D) (A := A) (H0 := s.heap) (fun u hI H locs hP hD hS ls hl => ?_) (fun j_12 => ?_)
  · obtain ⟨iz, rfl⟩ : ∃ z, z = u := ⟨_, rfl⟩
    have hP : va_P D vwCl [(mx, .inr (11, [.int ml, .int mw, .ref ms, .int mgl, .int mhd, .int mre, .int mag, .int mkt, .int mho, .int mpc, .int msd, .int mki, .ref mk, .ref ma, .ref mo, .ref mg, .ref mm, .ref mt, .int mdn, .int mun, .ref mn, .int mtk, .ref me, .ref mq, .int msv, .ref mwo, .ref md, .ref mf, .ref mr])), (ma, .inl (cI, 40, .inl fa))] H := hP
    have hD : va_D A [(mx, .inr (11, [.int ml, .int mw, .ref ms, .int mgl, .int mhd, .int mre, .int mag, .int mkt, .int mho, .int mpc, .int msd, .int mki, .ref mk, .ref ma, .ref mo, .ref mg, .ref mm, .ref mt, .int mdn, .int mun, .ref mn, .int mtk, .ref me, .ref mq, .int msv, .ref mwo, .ref md, .ref mf, .ref mr])), (ma, .inl (cI, 40, .inl fa))] := hD
    have hl : lv_has ls 5 [(0, .ref mx), (1, .int p1)] := hl
    have hI : kt_B iz (¬ mho.toInt = 0) := hI
    have hiz := hI
    refine lv_istore_n (lv' := [(2, .int iz), (0, .ref mx), (1, .int p1)]) hx hb dX11_about_12 rfl hl (by decide) rfl (fun ls hl => ?_)
    refine lv_iload_n hx hb dX11_about_13 rfl (lv_at hl 2 rfl) ?_
    rcases kt_sw p1 9 with hsw | ⟨hsw, hs2⟩
    · refine lv_tableOut (tgt := 193) hx hb dX11_about_14 (by omega) (by decide) ?_
      refine lv_iconst (v := (-1)) hx hb dX11_about_193 (by decide) ?_
      exact kt_ri () hx hb hr hlk hS dX11_about_194 hP hD (by show kt_AB p1.toInt mho.toInt (if mho.toInt = 1 then msd.toInt else -1) (if mho.toInt = 0 then 0 else mpc.toInt) (if mho.toInt = 0 then 0 else (kt_ct kt_m1 fa P_ : Int)) (if mho.toInt = 0 then 0 else mdn.toInt) (ml.toInt * mw.toInt) (if mho.toInt = 0 then 0 else mun.toInt) ml.toInt (if mho.toInt = 0 then (-1) else mtk.toInt) (-1 : Int32).toInt; first | ((have ejI := congrArg Int32.toInt ej); (simp only [kt_c0, kt_c1, kt_c2, kt_c3, kt_c4, kt_c8, kt_c9, kt_cm1, kt_c81, kt_c40, kt_c7, kt_c5, kt_c6, kt_c512, kt_c10, kt_c10000] at ejI); (refine ⟨fun h => ?_, fun h => ?_, fun h => ?_, fun h => ?_, fun h => ?_, fun h => ?_, fun h => ?_, fun h => ?_, fun h => ?_, fun h => ?_⟩ <;> first | (exfalso; omega) | exact h142 | exact h158 | rfl | (rw [if_pos (by omega)]; done) | (rw [if_neg (by omega)]; decide) | (rw [if_neg (hiz.t c_87)]; done) | (rw [if_pos (Classical.byContradiction (hiz.f c_87))]; decide) | (rw [if_neg (hiz.t c_145)]; done) | (rw [if_pos (Classical.byContradiction (hiz.f c_145))]; decide) | (rw [if_neg (hiz.t c_163)]; done) | (rw [if_pos (Classical.byContradiction (hiz.f c_163))]; decide) | (rw [if_neg (hiz.t c_181)]; done) | (rw [if_pos (Classical.byContradiction (hiz.f c_181))]; decide))) | (refine ⟨fun h => ?_, fun h => ?_, fun h => ?_, fun h => ?_, fun h => ?_, fun h => ?_, fun h => ?_, fun h => ?_, fun h => ?_, fun h => ?_⟩ <;> first | (exfalso; omega) | decide))
    · obtain ⟨j, hj, ej⟩ : ∃ j : Nat, j < 9 ∧ p1 = nI j := ⟨p1.toInt.toNat, by omega, kt_nIof (by omega)⟩
      rcases (show j = 0 ∨ j = 1 ∨ j = 2 ∨ j = 3 ∨ j = 4 ∨ j = 5 ∨ j = 6 ∨ j = 7 ∨ j = 8 by omega) with rfl | rfl | rfl | rfl | rfl | rfl | rfl | rfl | rfl
      · have ej : p1 = 0 := ej
        refine lv_tableIn (tgt := 64) (off := 50) hx hb dX11_about_14 (by rw [ej]; decide) (by rw [ej]; decide) (by rw [ej]; rfl) (by decide) ?_
        refine lv_aload_n hx hb dX11_about_64 rfl (lv_at hl 1 rfl) ?_
        refine va_get (D := D) (ci := 11) (C := RX11) (T := TX11) (N := 29) hx hb hts iw_X11_about_X11 hown hK hP 0 rfl rfl 8 (by decide) (hts (.fieldLink RX11 73 "KingTableModel" "how" "I") (List.mem_cons_of_mem _ (List.mem_append_left _ (List.Mem.head _)))) (fun _ h9 => h9) rfl dX11_about_65 ?_
        exact kt_ri () hx hb hr hlk hS dX11_about_68 hP hD (by show kt_AB p1.toInt mho.toInt (if mho.toInt = 1 then msd.toInt else -1) (if mho.toInt = 0 then 0 else mpc.toInt) (if mho.toInt = 0 then 0 else (kt_ct kt_m1 fa P_ : Int)) (if mho.toInt = 0 then 0 else mdn.toInt) (ml.toInt * mw.toInt) (if mho.toInt = 0 then 0 else mun.toInt) ml.toInt (if mho.toInt = 0 then (-1) else mtk.toInt) mho.toInt; first | ((have ejI := congrArg Int32.toInt ej); (simp only [kt_c0, kt_c1, kt_c2, kt_c3, kt_c4, kt_c8, kt_c9, kt_cm1, kt_c81, kt_c40, kt_c7, kt_c5, kt_c6, kt_c512, kt_c10, kt_c10000] at ejI); (refine ⟨fun h => ?_, fun h => ?_, fun h => ?_, fun h => ?_, fun h => ?_, fun h => ?_, fun h => ?_, fun h => ?_, fun h => ?_, fun h => ?_⟩ <;> first | (exfalso; omega) | exact h142 | exact h158 | rfl | (rw [if_pos (by omega)]; done) | (rw [if_neg (by omega)]; decide) | (rw [if_neg (hiz.t c_87)]; done) | (rw [if_pos (Classical.byContradiction (hiz.f c_87))]; decide) | (rw [if_neg (hiz.t c_145)]; done) | (rw [if_pos (Classical.byContradiction (hiz.f c_145))]; decide) | (rw [if_neg (hiz.t c_163)]; done) | (rw [if_pos (Classical.byContradiction (hiz.f c_163))]; decide) | (rw [if_neg (hiz.t c_181)]; done) | (rw [if_pos (Classical.byContradiction (hiz.f c_181))]; decide))) | (refine ⟨fun h => ?_, fun h => ?_, fun h => ?_, fun h => ?_, fun h => ?_, fun h => ?_, fun h => ?_, fun h => ?_, fun h => ?_, fun h => ?_⟩ <;> first | (exfalso; omega) | decide))
      · have ej : p1 = 1 := ej
        refine lv_tableIn (tgt := 69) (off := 55) hx hb dX11_about_14 (by rw [ej]; decide) (by rw [ej]; decide) (by rw [ej]; rfl) (by decide) ?_
        refine lv_aload_n hx hb dX11_about_69 rfl (lv_at hl 1 rfl) ?_
        refine va_get (D := D) (ci := 11) (C := RX11) (T := TX11) (N := 29) hx hb hts iw_X11_about_X11 hown hK hP 0 rfl rfl 8 (by decide) (hts (.fieldLink RX11 73 "KingTableModel" "how" "I") (List.mem_cons_of_mem _ (List.mem_append_left _ (List.Mem.head _)))) (fun _ h9 => h9) rfl dX11_about_70 ?_
        refine lv_iconst (v := 1) hx hb dX11_about_73 (by decide) ?_
        refine lv_icmp_ne (tgt := 84) hx hb dX11_about_74 (by decide) (fun c_74 => ?_) (fun c_74 => ?_)
        · have d_74 := c_74
          simp only [kt_lt, kt_le, kt_eq, kt_c0, kt_c1, kt_c2, kt_c3, kt_c4, kt_c8, kt_c9, kt_cm1, kt_c81, kt_c40, kt_c7, kt_c5, kt_c6, kt_c512, kt_c10, kt_c10000] at d_74
          refine lv_iconst (v := (-1)) hx hb dX11_about_84 (by decide) ?_
          exact kt_ri () hx hb hr hlk hS dX11_about_85 hP hD (by show kt_AB p1.toInt mho.toInt (if mho.toInt = 1 then msd.toInt else -1) (if mho.toInt = 0 then 0 else mpc.toInt) (if mho.toInt = 0 then 0 else (kt_ct kt_m1 fa P_ : Int)) (if mho.toInt = 0 then 0 else mdn.toInt) (ml.toInt * mw.toInt) (if mho.toInt = 0 then 0 else mun.toInt) ml.toInt (if mho.toInt = 0 then (-1) else mtk.toInt) (-1 : Int32).toInt; first | ((have ejI := congrArg Int32.toInt ej); (simp only [kt_c0, kt_c1, kt_c2, kt_c3, kt_c4, kt_c8, kt_c9, kt_cm1, kt_c81, kt_c40, kt_c7, kt_c5, kt_c6, kt_c512, kt_c10, kt_c10000] at ejI); (refine ⟨fun h => ?_, fun h => ?_, fun h => ?_, fun h => ?_, fun h => ?_, fun h => ?_, fun h => ?_, fun h => ?_, fun h => ?_, fun h => ?_⟩ <;> first | (exfalso; omega) | exact h142 | exact h158 | rfl | (rw [if_pos (by omega)]; done) | (rw [if_neg (by omega)]; decide) | (rw [if_neg (hiz.t c_87)]; done) | (rw [if_pos (Classical.byContradiction (hiz.f c_87))]; decide) | (rw [if_neg (hiz.t c_145)]; done) | (rw [if_pos (Classical.byContradiction (hiz.f c_145))]; decide) | (rw [if_neg (hiz.t c_163)]; done) | (rw [if_pos (Classical.byContradiction (hiz.f c_163))]; decide) | (rw [if_neg (hiz.t c_181)]; done) | (rw [if_pos (Classical.byContradiction (hiz.f c_181))]; decide))) | (refine ⟨fun h => ?_, fun h => ?_, fun h => ?_, fun h => ?_, fun h => ?_, fun h => ?_, fun h => ?_, fun h => ?_, fun h => ?_, fun h => ?_⟩ <;> first | (exfalso; omega) | decide))
        · have d_74 := c_74
          simp only [kt_lt, kt_le, kt_eq, kt_c0, kt_c1, kt_c2, kt_c3, kt_c4, kt_c8, kt_c9, kt_cm1, kt_c81, kt_c40, kt_c7, kt_c5, kt_c6, kt_c512, kt_c10, kt_c10000] at d_74
          refine lv_aload_n hx hb dX11_about_77 rfl (lv_at hl 1 rfl) ?_
          refine va_get (D := D) (ci := 11) (C := RX11) (T := TX11) (N := 29) hx hb hts iw_X11_about_X11 hown hK hP 0 rfl rfl 10 (by decide) (hts (.fieldLink RX11 126 "KingTableModel" "side" "I") (List.mem_cons_of_mem _ (List.mem_append_left _ (List.mem_cons_of_mem _ (List.Mem.head _))))) (fun _ h9 => h9) rfl dX11_about_78 ?_
          refine lv_goto (tgt := 85) hx hb dX11_about_81 (by decide) ?_
          exact kt_ri () hx hb hr hlk hS dX11_about_85 hP hD (by show kt_AB p1.toInt mho.toInt (if mho.toInt = 1 then msd.toInt else -1) (if mho.toInt = 0 then 0 else mpc.toInt) (if mho.toInt = 0 then 0 else (kt_ct kt_m1 fa P_ : Int)) (if mho.toInt = 0 then 0 else mdn.toInt) (ml.toInt * mw.toInt) (if mho.toInt = 0 then 0 else mun.toInt) ml.toInt (if mho.toInt = 0 then (-1) else mtk.toInt) msd.toInt; first | ((have ejI := congrArg Int32.toInt ej); (simp only [kt_c0, kt_c1, kt_c2, kt_c3, kt_c4, kt_c8, kt_c9, kt_cm1, kt_c81, kt_c40, kt_c7, kt_c5, kt_c6, kt_c512, kt_c10, kt_c10000] at ejI); (refine ⟨fun h => ?_, fun h => ?_, fun h => ?_, fun h => ?_, fun h => ?_, fun h => ?_, fun h => ?_, fun h => ?_, fun h => ?_, fun h => ?_⟩ <;> first | (exfalso; omega) | exact h142 | exact h158 | rfl | (rw [if_pos (by omega)]; done) | (rw [if_neg (by omega)]; decide) | (rw [if_neg (hiz.t c_87)]; done) | (rw [if_pos (Classical.byContradiction (hiz.f c_87))]; decide) | (rw [if_neg (hiz.t c_145)]; done) | (rw [if_pos (Classical.byContradiction (hiz.f c_145))]; decide) | (rw [if_neg (hiz.t c_163)]; done) | (rw [if_pos (Classical.byContradiction (hiz.f c_163))]; decide) | (rw [if_neg (hiz.t c_181)]; done) | (rw [if_pos (Classical.byContradiction (hiz.f c_181))]; decide))) | (refine ⟨fun h => ?_, fun h => ?_, fun h => ?_, fun h => ?_, fun h => ?_, fun h => ?_, fun h => ?_, fun h => ?_, fun h => ?_, fun h => ?_⟩ <;> first | (exfalso; omega) | decide))
      · have ej : p1 = 2 := ej
        refine lv_tableIn (tgt := 86) (off := 72) hx hb dX11_about_14 (by rw [ej]; decide) (by rw [ej]; decide) (by rw [ej]; rfl) (by decide) ?_
        refine lv_iload_n hx hb dX11_about_86 rfl (lv_at hl 0 rfl) ?_
        refine lv_if_eq (tgt := 97) hx hb dX11_about_87 (by decide) (fun c_87 => ?_) (fun c_87 => ?_)
        · have d_87 := c_87
          simp only [kt_lt, kt_le, kt_eq, kt_c0, kt_c1, kt_c2, kt_c3, kt_c4, kt_c8, kt_c9, kt_cm1, kt_c81, kt_c40, kt_c7, kt_c5, kt_c6, kt_c512, kt_c10, kt_c10000] at d_87
          refine lv_iconst (v := 0) hx hb dX11_about_97 (by decide) ?_
          exact kt_ri () hx hb hr hlk hS dX11_about_98 hP hD (by show kt_AB p1.toInt mho.toInt (if mho.toInt = 1 then msd.toInt else -1) (if mho.toInt = 0 then 0 else mpc.toInt) (if mho.toInt = 0 then 0 else (kt_ct kt_m1 fa P_ : Int)) (if mho.toInt = 0 then 0 else mdn.toInt) (ml.toInt * mw.toInt) (if mho.toInt = 0 then 0 else mun.toInt) ml.toInt (if mho.toInt = 0 then (-1) else mtk.toInt) (0 : Int32).toInt; first | ((have ejI := congrArg Int32.toInt ej); (simp only [kt_c0, kt_c1, kt_c2, kt_c3, kt_c4, kt_c8, kt_c9, kt_cm1, kt_c81, kt_c40, kt_c7, kt_c5, kt_c6, kt_c512, kt_c10, kt_c10000] at ejI); (refine ⟨fun h => ?_, fun h => ?_, fun h => ?_, fun h => ?_, fun h => ?_, fun h => ?_, fun h => ?_, fun h => ?_, fun h => ?_, fun h => ?_⟩ <;> first | (exfalso; omega) | exact h142 | exact h158 | rfl | (rw [if_pos (by omega)]; done) | (rw [if_neg (by omega)]; decide) | (rw [if_neg (hiz.t c_87)]; done) | (rw [if_pos (Classical.byContradiction (hiz.f c_87))]; decide) | (rw [if_neg (hiz.t c_145)]; done) | (rw [if_pos (Classical.byContradiction (hiz.f c_145))]; decide) | (rw [if_neg (hiz.t c_163)]; done) | (rw [if_pos (Classical.byContradiction (hiz.f c_163))]; decide) | (rw [if_neg (hiz.t c_181)]; done) | (rw [if_pos (Classical.byContradiction (hiz.f c_181))]; decide))) | (refine ⟨fun h => ?_, fun h => ?_, fun h => ?_, fun h => ?_, fun h => ?_, fun h => ?_, fun h => ?_, fun h => ?_, fun h => ?_, fun h => ?_⟩ <;> first | (exfalso; omega) | decide))
        · have d_87 := c_87
          simp only [kt_lt, kt_le, kt_eq, kt_c0, kt_c1, kt_c2, kt_c3, kt_c4, kt_c8, kt_c9, kt_cm1, kt_c81, kt_c40, kt_c7, kt_c5, kt_c6, kt_c512, kt_c10, kt_c10000] at d_87
          refine lv_aload_n hx hb dX11_about_90 rfl (lv_at hl 1 rfl) ?_
          refine va_get (D := D) (ci := 11) (C := RX11) (T := TX11) (N := 29) hx hb hts iw_X11_about_X11 hown hK hP 0 rfl rfl 9 (by decide) (hts (.fieldLink RX11 103 "KingTableModel" "pieces" "I") (List.mem_cons_of_mem _ (List.mem_append_left _ (List.mem_cons_of_mem _ (List.mem_cons_of_mem _ (List.Mem.head _)))))) (fun _ h9 => h9) rfl dX11_about_91 ?_
          refine lv_goto (tgt := 98) hx hb dX11_about_94 (by decide) ?_
          exact kt_ri () hx hb hr hlk hS dX11_about_98 hP hD (by show kt_AB p1.toInt mho.toInt (if mho.toInt = 1 then msd.toInt else -1) (if mho.toInt = 0 then 0 else mpc.toInt) (if mho.toInt = 0 then 0 else (kt_ct kt_m1 fa P_ : Int)) (if mho.toInt = 0 then 0 else mdn.toInt) (ml.toInt * mw.toInt) (if mho.toInt = 0 then 0 else mun.toInt) ml.toInt (if mho.toInt = 0 then (-1) else mtk.toInt) mpc.toInt; first | ((have ejI := congrArg Int32.toInt ej); (simp only [kt_c0, kt_c1, kt_c2, kt_c3, kt_c4, kt_c8, kt_c9, kt_cm1, kt_c81, kt_c40, kt_c7, kt_c5, kt_c6, kt_c512, kt_c10, kt_c10000] at ejI); (refine ⟨fun h => ?_, fun h => ?_, fun h => ?_, fun h => ?_, fun h => ?_, fun h => ?_, fun h => ?_, fun h => ?_, fun h => ?_, fun h => ?_⟩ <;> first | (exfalso; omega) | exact h142 | exact h158 | rfl | (rw [if_pos (by omega)]; done) | (rw [if_neg (by omega)]; decide) | (rw [if_neg (hiz.t c_87)]; done) | (rw [if_pos (Classical.byContradiction (hiz.f c_87))]; decide) | (rw [if_neg (hiz.t c_145)]; done) | (rw [if_pos (Classical.byContradiction (hiz.f c_145))]; decide) | (rw [if_neg (hiz.t c_163)]; done) | (rw [if_pos (Classical.byContradiction (hiz.f c_163))]; decide) | (rw [if_neg (hiz.t c_181)]; done) | (rw [if_pos (Classical.byContradiction (hiz.f c_181))]; decide))) | (refine ⟨fun h => ?_, fun h => ?_, fun h => ?_, fun h => ?_, fun h => ?_, fun h => ?_, fun h => ?_, fun h => ?_, fun h => ?_, fun h => ?_⟩ <;> first | (exfalso; omega) | decide))
      · have ej : p1 = 3 := ej
        refine lv_tableIn (tgt := 99) (off := 85) hx hb dX11_about_14 (by rw [ej]; decide) (by rw [ej]; decide) (by rw [ej]; rfl) (by decide) ?_
        refine lv_iconst (v := 0) hx hb dX11_about_99 (by decide) ?_
        refine lv_istore_n (lv' := [(3, .int 0), (2, .int iz), (0, .ref mx), (1, .int p1)]) hx hb dX11_about_100 rfl hl (by decide) rfl (fun ls hl => ?_)
        refine lv_iconst (v := 0) hx hb dX11_about_101 (by decide) ?_
        refine lv_istore (lv' := [(4, .int 0), (3, .int 0), (2, .int iz), (0, .ref mx), (1, .int p1)]) hx hb dX11_about_102 hl (by decide) rfl (fun ls hl => ?_)
        refine kt_loop (σ := Nat × Int32) 104 5 (fun u => [(mx, .inr (11, [.int ml, .int mw, .ref ms, .int mgl, .int mhd, .int mre, .int mag, .int mkt, .int mho, .int mpc, .int msd, .int mki, .ref mk, .ref ma, .ref mo, .ref mg, .ref mm, .ref mt, .int mdn, .int mun, .ref mn, .int mtk, .ref me, .ref mq, .int msv, .ref mwo, .ref md, .ref mf, .ref mr])), (ma, .inl (cI, 40, .inl fa))]) (fun u => [(4, .int (nI u.1)), (3, .int u.2), (2, .int iz), (0, .ref mx), (1, .int p1)]) (fun n u => (u.1 ≤ 41 ∧ 41 < u.1 + n ∧ (u.1 = 0 ∨ (¬ mho.toInt = 0 ∧ (u.1 : Int) ≤ mpc.toInt))) ∧ u.2 = nI (kt_ct kt_m1 fa u.1)) (fun u h => by omega) (fun n_104 ih_104 u hI H locs hP hD hS ls hl => ?_) (42) (0, (0 : Int32)) (by show (0 ≤ 41 ∧ 41 < 0 + 42 ∧ (0 = 0 ∨ (¬ mho.toInt = 0 ∧ (0 : Int) ≤ mpc.toInt))) ∧ (0 : Int32) = nI (kt_ct kt_m1 fa 0); exact ⟨⟨by decide, by decide, Or.inl rfl⟩, rfl⟩) hP hD hS (lv_sub hl [0, 1, 2, 3, 4] rfl)
        obtain ⟨k, c1⟩ := u
        have hP : va_P D vwCl [(mx, .inr (11, [.int ml, .int mw, .ref ms, .int mgl, .int mhd, .int mre, .int mag, .int mkt, .int mho, .int mpc, .int msd, .int mki, .ref mk, .ref ma, .ref mo, .ref mg, .ref mm, .ref mt, .int mdn, .int mun, .ref mn, .int mtk, .ref me, .ref mq, .int msv, .ref mwo, .ref md, .ref mf, .ref mr])), (ma, .inl (cI, 40, .inl fa))] H := hP
        have hD : va_D A [(mx, .inr (11, [.int ml, .int mw, .ref ms, .int mgl, .int mhd, .int mre, .int mag, .int mkt, .int mho, .int mpc, .int msd, .int mki, .ref mk, .ref ma, .ref mo, .ref mg, .ref mm, .ref mt, .int mdn, .int mun, .ref mn, .int mtk, .ref me, .ref mq, .int msv, .ref mwo, .ref md, .ref mf, .ref mr])), (ma, .inl (cI, 40, .inl fa))] := hD
        have hl : lv_has ls 5 [(4, .int (nI k)), (3, .int c1), (2, .int iz), (0, .ref mx), (1, .int p1)] := hl
        have hI : (k ≤ 41 ∧ 41 < k + (n_104 + 1) ∧ (k = 0 ∨ (¬ mho.toInt = 0 ∧ (k : Int) ≤ mpc.toInt))) ∧ c1 = nI (kt_ct kt_m1 fa k) := hI
        obtain ⟨hkb, h1⟩ := hI
        have hk0 := kt_nI (n := k) (by omega)
        refine lv_iload hx hb dX11_about_104 (lv_at hl 0 rfl) ?_
        refine lv_aload_n hx hb dX11_about_106 rfl (lv_at hl 3 rfl) ?_
        refine va_get (D := D) (ci := 11) (C := RX11) (T := TX11) (N := 29) hx hb hts iw_X11_about_X11 hown hK hP 0 rfl rfl 9 (by decide) (hts (.fieldLink RX11 103 "KingTableModel" "pieces" "I") (List.mem_cons_of_mem _ (List.mem_append_left _ (List.mem_cons_of_mem _ (List.mem_cons_of_mem _ (List.Mem.head _)))))) (fun _ h9 => h9) rfl dX11_about_107 ?_
        refine lv_icmp_ge (tgt := 142) hx hb dX11_about_110 (by decide) (fun c_110 => ?_) (fun c_110 => ?_)
        · have d_110 := c_110
          simp only [kt_lt, kt_le, kt_eq, kt_c0, kt_c1, kt_c2, kt_c3, kt_c4, kt_c8, kt_c9, kt_cm1, kt_c81, kt_c40, kt_c7, kt_c5, kt_c6, kt_c512, kt_c10, kt_c10000] at d_110
          have h142 : c1.toInt = (if mho.toInt = 0 then 0 else (kt_ct kt_m1 fa P_ : Int)) := by
            rw [h1, kt_nI (by have := kt_ct_le kt_m1 fa k; omega)]
            by_cases e : mho.toInt = 0
            · rw [if_pos e, show k = 0 by omega]; rfl
            · have hpcy := hpcx e
              rw [if_neg e, show P_ = k by first | omega | exact absurd (hiz.f c_114) (fun h => h e)]
          refine lv_iload_n hx hb dX11_about_142 rfl (lv_at hl 1 rfl) ?_
          exact kt_ri () hx hb hr hlk hS dX11_about_143 hP hD (by show kt_AB p1.toInt mho.toInt (if mho.toInt = 1 then msd.toInt else -1) (if mho.toInt = 0 then 0 else mpc.toInt) (if mho.toInt = 0 then 0 else (kt_ct kt_m1 fa P_ : Int)) (if mho.toInt = 0 then 0 else mdn.toInt) (ml.toInt * mw.toInt) (if mho.toInt = 0 then 0 else mun.toInt) ml.toInt (if mho.toInt = 0 then (-1) else mtk.toInt) c1.toInt; first | ((have ejI := congrArg Int32.toInt ej); (simp only [kt_c0, kt_c1, kt_c2, kt_c3, kt_c4, kt_c8, kt_c9, kt_cm1, kt_c81, kt_c40, kt_c7, kt_c5, kt_c6, kt_c512, kt_c10, kt_c10000] at ejI); (refine ⟨fun h => ?_, fun h => ?_, fun h => ?_, fun h => ?_, fun h => ?_, fun h => ?_, fun h => ?_, fun h => ?_, fun h => ?_, fun h => ?_⟩ <;> first | (exfalso; omega) | exact h142 | exact h158 | rfl | (rw [if_pos (by omega)]; done) | (rw [if_neg (by omega)]; decide) | (rw [if_neg (hiz.t c_87)]; done) | (rw [if_pos (Classical.byContradiction (hiz.f c_87))]; decide) | (rw [if_neg (hiz.t c_145)]; done) | (rw [if_pos (Classical.byContradiction (hiz.f c_145))]; decide) | (rw [if_neg (hiz.t c_163)]; done) | (rw [if_pos (Classical.byContradiction (hiz.f c_163))]; decide) | (rw [if_neg (hiz.t c_181)]; done) | (rw [if_pos (Classical.byContradiction (hiz.f c_181))]; decide))) | (refine ⟨fun h => ?_, fun h => ?_, fun h => ?_, fun h => ?_, fun h => ?_, fun h => ?_, fun h => ?_, fun h => ?_, fun h => ?_, fun h => ?_⟩ <;> first | (exfalso; omega) | decide))
        · have d_110 := c_110
          simp only [kt_lt, kt_le, kt_eq, kt_c0, kt_c1, kt_c2, kt_c3, kt_c4, kt_c8, kt_c9, kt_cm1, kt_c81, kt_c40, kt_c7, kt_c5, kt_c6, kt_c512, kt_c10, kt_c10000] at d_110
          refine lv_iload_n hx hb dX11_about_113 rfl (lv_at hl 2 rfl) ?_
          refine lv_if_eq (tgt := 142) hx hb dX11_about_114 (by decide) (fun c_114 => ?_) (fun c_114 => ?_)
          · have d_114 := c_114
            simp only [kt_lt, kt_le, kt_eq, kt_c0, kt_c1, kt_c2, kt_c3, kt_c4, kt_c8, kt_c9, kt_cm1, kt_c81, kt_c40, kt_c7, kt_c5, kt_c6, kt_c512, kt_c10, kt_c10000] at d_114
            have h142 : c1.toInt = (if mho.toInt = 0 then 0 else (kt_ct kt_m1 fa P_ : Int)) := by
              rw [h1, kt_nI (by have := kt_ct_le kt_m1 fa k; omega)]
              by_cases e : mho.toInt = 0
              · rw [if_pos e, show k = 0 by omega]; rfl
              · have hpcy := hpcx e
                rw [if_neg e, show P_ = k by first | omega | exact absurd (hiz.f c_114) (fun h => h e)]
            refine lv_iload_n hx hb dX11_about_142 rfl (lv_at hl 1 rfl) ?_
            exact kt_ri () hx hb hr hlk hS dX11_about_143 hP hD (by show kt_AB p1.toInt mho.toInt (if mho.toInt = 1 then msd.toInt else -1) (if mho.toInt = 0 then 0 else mpc.toInt) (if mho.toInt = 0 then 0 else (kt_ct kt_m1 fa P_ : Int)) (if mho.toInt = 0 then 0 else mdn.toInt) (ml.toInt * mw.toInt) (if mho.toInt = 0 then 0 else mun.toInt) ml.toInt (if mho.toInt = 0 then (-1) else mtk.toInt) c1.toInt; first | ((have ejI := congrArg Int32.toInt ej); (simp only [kt_c0, kt_c1, kt_c2, kt_c3, kt_c4, kt_c8, kt_c9, kt_cm1, kt_c81, kt_c40, kt_c7, kt_c5, kt_c6, kt_c512, kt_c10, kt_c10000] at ejI); (refine ⟨fun h => ?_, fun h => ?_, fun h => ?_, fun h => ?_, fun h => ?_, fun h => ?_, fun h => ?_, fun h => ?_, fun h => ?_, fun h => ?_⟩ <;> first | (exfalso; omega) | exact h142 | exact h158 | rfl | (rw [if_pos (by omega)]; done) | (rw [if_neg (by omega)]; decide) | (rw [if_neg (hiz.t c_87)]; done) | (rw [if_pos (Classical.byContradiction (hiz.f c_87))]; decide) | (rw [if_neg (hiz.t c_145)]; done) | (rw [if_pos (Classical.byContradiction (hiz.f c_145))]; decide) | (rw [if_neg (hiz.t c_163)]; done) | (rw [if_pos (Classical.byContradiction (hiz.f c_163))]; decide) | (rw [if_neg (hiz.t c_181)]; done) | (rw [if_pos (Classical.byContradiction (hiz.f c_181))]; decide))) | (refine ⟨fun h => ?_, fun h => ?_, fun h => ?_, fun h => ?_, fun h => ?_, fun h => ?_, fun h => ?_, fun h => ?_, fun h => ?_, fun h => ?_⟩ <;> first | (exfalso; omega) | decide))
          · have d_114 := c_114
            simp only [kt_lt, kt_le, kt_eq, kt_c0, kt_c1, kt_c2, kt_c3, kt_c4, kt_c8, kt_c9, kt_cm1, kt_c81, kt_c40, kt_c7, kt_c5, kt_c6, kt_c512, kt_c10, kt_c10000] at d_114
            have hmn := hiz.t c_114
            have hpcy := hpcx hmn
            refine lv_iload_n hx hb dX11_about_117 rfl (lv_at hl 1 rfl) ?_
            refine lv_aload_n hx hb dX11_about_118 rfl (lv_at hl 3 rfl) ?_
            refine va_get (D := D) (ci := 11) (C := RX11) (T := TX11) (N := 29) hx hb hts iw_X11_about_X11 hown hK hP 0 rfl rfl 13 (by decide) (hts (.fieldLink RX11 30 "KingTableModel" "at" "[I") (List.mem_cons_of_mem _ (List.mem_append_left _ (List.mem_cons_of_mem _ (List.mem_cons_of_mem _ (List.mem_cons_of_mem _ (List.Mem.head _))))))) (fun _ h9 => h9) rfl dX11_about_119 ?_
            refine lv_iload hx hb dX11_about_122 (lv_at hl 0 rfl) ?_
            have hi_1 : vp_in (nI k) 40 := by exact kt_in (by omega) (by omega)
            refine va_iald hx hb hK hP 1 0 rfl rfl hi_1 dX11_about_124 ?_
            refine lv_topi (fun a_124 ea_124 => ?_)
            have e124 : a_124 = fa k := by rw [ea_124, nI_clamp (by omega)]
            refine lv_iconst (v := (-1)) hx hb dX11_about_125 (by decide) ?_
            refine kt_join (σ := Int32) 134 5 (fun u => [(mx, .inr (11, [.int ml, .int mw, .ref ms, .int mgl, .int mhd, .int mre, .int mag, .int mkt, .int mho, .int mpc, .int msd, .int mki, .ref mk, .ref ma, .ref mo, .ref mg, .ref mm, .ref mt, .int mdn, .int mun, .ref mn, .int mtk, .ref me, .ref mq, .int msv, .ref mwo, .ref md, .ref mf, .ref mr])), (ma, .inl (cI, 40, .inl fa))]) (fun u => [(4, .int (nI k)), (3, .int c1), (2, .int iz), (0, .ref mx), (1, .int p1)]) (fun u => [.int u, .int c1]) (fun u => u = if kt_m1 (fa k) = true then 1 else 0) (D := D) (A := A) (H0 := s.heap) (fun u hI H locs hP hD hS ls hl => ?_) (fun j_134 => ?_)
            · obtain ⟨v, rfl⟩ : ∃ z, z = u := ⟨_, rfl⟩
              have hP : va_P D vwCl [(mx, .inr (11, [.int ml, .int mw, .ref ms, .int mgl, .int mhd, .int mre, .int mag, .int mkt, .int mho, .int mpc, .int msd, .int mki, .ref mk, .ref ma, .ref mo, .ref mg, .ref mm, .ref mt, .int mdn, .int mun, .ref mn, .int mtk, .ref me, .ref mq, .int msv, .ref mwo, .ref md, .ref mf, .ref mr])), (ma, .inl (cI, 40, .inl fa))] H := hP
              have hD : va_D A [(mx, .inr (11, [.int ml, .int mw, .ref ms, .int mgl, .int mhd, .int mre, .int mag, .int mkt, .int mho, .int mpc, .int msd, .int mki, .ref mk, .ref ma, .ref mo, .ref mg, .ref mm, .ref mt, .int mdn, .int mun, .ref mn, .int mtk, .ref me, .ref mq, .int msv, .ref mwo, .ref md, .ref mf, .ref mr])), (ma, .inl (cI, 40, .inl fa))] := hD
              have hl : lv_has ls 5 [(4, .int (nI k)), (3, .int c1), (2, .int iz), (0, .ref mx), (1, .int p1)] := hl
              have hI : v = if kt_m1 (fa k) = true then 1 else 0 := hI
              have e_v := hI
              refine lv_iadd hx hb dX11_about_134 ?_
              refine lv_topi (fun t_134 et_134 => ?_)
              first | have hk_134 := kt_addx et_134 (by first | omega | (simp only [kt_c0, kt_c1, kt_c2, kt_c3, kt_c4, kt_c8, kt_c9, kt_cm1, kt_c81, kt_c40, kt_c7, kt_c5, kt_c6, kt_c512, kt_c10, kt_c10000]; omega)) (by first | omega | (simp only [kt_c0, kt_c1, kt_c2, kt_c3, kt_c4, kt_c8, kt_c9, kt_cm1, kt_c81, kt_c40, kt_c7, kt_c5, kt_c6, kt_c512, kt_c10, kt_c10000]; omega)) | obtain ⟨k_134, hk_134, hm_134, hM_134⟩ := kt_addk et_134
              refine lv_istore_n (lv' := [(3, .int t_134), (4, .int (nI k)), (2, .int iz), (0, .ref mx), (1, .int p1)]) hx hb dX11_about_135 rfl hl (by decide) rfl (fun ls hl => ?_)
              refine lv_iinc (v := nI (k + 1)) (lv' := [(4, .int (nI (k + 1))), (3, .int t_134), (2, .int iz), (0, .ref mx), (1, .int p1)]) hx hb dX11_about_136 hl (k := 1) rfl (nI_1 _) (by decide) rfl (fun ls hl => ?_)
              refine lv_goto (tgt := 104) hx hb dX11_about_139 (by decide) ?_
              exact ih_104 ((k + 1), t_134) (by show ((k + 1) ≤ 41 ∧ 41 < (k + 1) + n_104 ∧ ((k + 1) = 0 ∨ (¬ mho.toInt = 0 ∧ ((k + 1) : Int) ≤ mpc.toInt))) ∧ t_134 = nI (kt_ct kt_m1 fa (k + 1)); exact ⟨by omega, kt_ct_add h1 e_v et_134⟩) H _ hP hD hS ls (lv_sub hl [0, 1, 2, 3, 4] rfl)
            refine lv_icmp_ne (tgt := 133) hx hb dX11_about_126 (by decide) (fun c_126 => ?_) (fun c_126 => ?_)
            · have d_126 := c_126
              simp only [kt_lt, kt_le, kt_eq, kt_c0, kt_c1, kt_c2, kt_c3, kt_c4, kt_c8, kt_c9, kt_cm1, kt_c81, kt_c40, kt_c7, kt_c5, kt_c6, kt_c512, kt_c10, kt_c10000] at d_126
              refine lv_iconst (v := 0) hx hb dX11_about_133 (by decide) ?_
              exact j_134 (0 : Int32) (by show (0 : Int32) = if kt_m1 (fa k) = true then 1 else 0; unfold kt_m1; exact kt_dt (by first | exact Or.inl ⟨rfl, e124.symm.trans c_126⟩ | exact Or.inr ⟨rfl, fun h => c_126 (e124.trans h)⟩)) H _ hP hD hS ls (lv_sub hl [0, 1, 2, 3, 4] rfl)
            · have d_126 := c_126
              simp only [kt_lt, kt_le, kt_eq, kt_c0, kt_c1, kt_c2, kt_c3, kt_c4, kt_c8, kt_c9, kt_cm1, kt_c81, kt_c40, kt_c7, kt_c5, kt_c6, kt_c512, kt_c10, kt_c10000] at d_126
              refine lv_iconst (v := 1) hx hb dX11_about_129 (by decide) ?_
              refine lv_goto (tgt := 134) hx hb dX11_about_130 (by decide) ?_
              exact j_134 (1 : Int32) (by show (1 : Int32) = if kt_m1 (fa k) = true then 1 else 0; unfold kt_m1; exact kt_dt (by first | exact Or.inl ⟨rfl, e124.symm.trans c_126⟩ | exact Or.inr ⟨rfl, fun h => c_126 (e124.trans h)⟩)) H _ hP hD hS ls (lv_sub hl [0, 1, 2, 3, 4] rfl)
      · have ej : p1 = 4 := ej
        refine lv_tableIn (tgt := 144) (off := 130) hx hb dX11_about_14 (by rw [ej]; decide) (by rw [ej]; decide) (by rw [ej]; rfl) (by decide) ?_
        refine lv_iload_n hx hb dX11_about_144 rfl (lv_at hl 0 rfl) ?_
        refine lv_if_eq (tgt := 155) hx hb dX11_about_145 (by decide) (fun c_145 => ?_) (fun c_145 => ?_)
        · have d_145 := c_145
          simp only [kt_lt, kt_le, kt_eq, kt_c0, kt_c1, kt_c2, kt_c3, kt_c4, kt_c8, kt_c9, kt_cm1, kt_c81, kt_c40, kt_c7, kt_c5, kt_c6, kt_c512, kt_c10, kt_c10000] at d_145
          refine lv_iconst (v := 0) hx hb dX11_about_155 (by decide) ?_
          exact kt_ri () hx hb hr hlk hS dX11_about_156 hP hD (by show kt_AB p1.toInt mho.toInt (if mho.toInt = 1 then msd.toInt else -1) (if mho.toInt = 0 then 0 else mpc.toInt) (if mho.toInt = 0 then 0 else (kt_ct kt_m1 fa P_ : Int)) (if mho.toInt = 0 then 0 else mdn.toInt) (ml.toInt * mw.toInt) (if mho.toInt = 0 then 0 else mun.toInt) ml.toInt (if mho.toInt = 0 then (-1) else mtk.toInt) (0 : Int32).toInt; first | ((have ejI := congrArg Int32.toInt ej); (simp only [kt_c0, kt_c1, kt_c2, kt_c3, kt_c4, kt_c8, kt_c9, kt_cm1, kt_c81, kt_c40, kt_c7, kt_c5, kt_c6, kt_c512, kt_c10, kt_c10000] at ejI); (refine ⟨fun h => ?_, fun h => ?_, fun h => ?_, fun h => ?_, fun h => ?_, fun h => ?_, fun h => ?_, fun h => ?_, fun h => ?_, fun h => ?_⟩ <;> first | (exfalso; omega) | exact h142 | exact h158 | rfl | (rw [if_pos (by omega)]; done) | (rw [if_neg (by omega)]; decide) | (rw [if_neg (hiz.t c_87)]; done) | (rw [if_pos (Classical.byContradiction (hiz.f c_87))]; decide) | (rw [if_neg (hiz.t c_145)]; done) | (rw [if_pos (Classical.byContradiction (hiz.f c_145))]; decide) | (rw [if_neg (hiz.t c_163)]; done) | (rw [if_pos (Classical.byContradiction (hiz.f c_163))]; decide) | (rw [if_neg (hiz.t c_181)]; done) | (rw [if_pos (Classical.byContradiction (hiz.f c_181))]; decide))) | (refine ⟨fun h => ?_, fun h => ?_, fun h => ?_, fun h => ?_, fun h => ?_, fun h => ?_, fun h => ?_, fun h => ?_, fun h => ?_, fun h => ?_⟩ <;> first | (exfalso; omega) | decide))
        · have d_145 := c_145
          simp only [kt_lt, kt_le, kt_eq, kt_c0, kt_c1, kt_c2, kt_c3, kt_c4, kt_c8, kt_c9, kt_cm1, kt_c81, kt_c40, kt_c7, kt_c5, kt_c6, kt_c512, kt_c10, kt_c10000] at d_145
          refine lv_aload_n hx hb dX11_about_148 rfl (lv_at hl 1 rfl) ?_
          refine va_get (D := D) (ci := 11) (C := RX11) (T := TX11) (N := 29) hx hb hts iw_X11_about_X11 hown hK hP 0 rfl rfl 18 (by decide) (hts (.fieldLink RX11 138 "KingTableModel" "done" "I") (List.mem_cons_of_mem _ (List.mem_append_left _ (List.mem_cons_of_mem _ (List.mem_cons_of_mem _ (List.mem_cons_of_mem _ (List.mem_cons_of_mem _ (List.Mem.head _)))))))) (fun _ h9 => h9) rfl dX11_about_149 ?_
          refine lv_goto (tgt := 156) hx hb dX11_about_152 (by decide) ?_
          exact kt_ri () hx hb hr hlk hS dX11_about_156 hP hD (by show kt_AB p1.toInt mho.toInt (if mho.toInt = 1 then msd.toInt else -1) (if mho.toInt = 0 then 0 else mpc.toInt) (if mho.toInt = 0 then 0 else (kt_ct kt_m1 fa P_ : Int)) (if mho.toInt = 0 then 0 else mdn.toInt) (ml.toInt * mw.toInt) (if mho.toInt = 0 then 0 else mun.toInt) ml.toInt (if mho.toInt = 0 then (-1) else mtk.toInt) mdn.toInt; first | ((have ejI := congrArg Int32.toInt ej); (simp only [kt_c0, kt_c1, kt_c2, kt_c3, kt_c4, kt_c8, kt_c9, kt_cm1, kt_c81, kt_c40, kt_c7, kt_c5, kt_c6, kt_c512, kt_c10, kt_c10000] at ejI); (refine ⟨fun h => ?_, fun h => ?_, fun h => ?_, fun h => ?_, fun h => ?_, fun h => ?_, fun h => ?_, fun h => ?_, fun h => ?_, fun h => ?_⟩ <;> first | (exfalso; omega) | exact h142 | exact h158 | rfl | (rw [if_pos (by omega)]; done) | (rw [if_neg (by omega)]; decide) | (rw [if_neg (hiz.t c_87)]; done) | (rw [if_pos (Classical.byContradiction (hiz.f c_87))]; decide) | (rw [if_neg (hiz.t c_145)]; done) | (rw [if_pos (Classical.byContradiction (hiz.f c_145))]; decide) | (rw [if_neg (hiz.t c_163)]; done) | (rw [if_pos (Classical.byContradiction (hiz.f c_163))]; decide) | (rw [if_neg (hiz.t c_181)]; done) | (rw [if_pos (Classical.byContradiction (hiz.f c_181))]; decide))) | (refine ⟨fun h => ?_, fun h => ?_, fun h => ?_, fun h => ?_, fun h => ?_, fun h => ?_, fun h => ?_, fun h => ?_, fun h => ?_, fun h => ?_⟩ <;> first | (exfalso; omega) | decide))
      · have ej : p1 = 5 := ej
        refine lv_tableIn (tgt := 157) (off := 143) hx hb dX11_about_14 (by rw [ej]; decide) (by rw [ej]; decide) (by rw [ej]; rfl) (by decide) ?_
        refine lv_aload_n hx hb dX11_about_157 rfl (lv_at hl 1 rfl) ?_
        refine kt_pi (wc := [(mx, .inr (11, [.int ml, .int mw, .ref ms, .int mgl, .int mhd, .int mre, .int mag, .int mkt, .int mho, .int mpc, .int msd, .int mki, .ref mk, .ref ma, .ref mo, .ref mg, .ref mm, .ref mt, .int mdn, .int mun, .ref mn, .int mtk, .ref me, .ref mq, .int msv, .ref mwo, .ref md, .ref mf, .ref mr]))]) [0] hP hD hS hA rfl (by decide) (fun hPc hDc => va_runV (As := []) (rest := []) ⟨hx, hb, hml, hown, hts⟩ (c_X11_fields l D cI cZ cB H.size mx ms mk ma mo mg mm mt mn me mq mwo md mf mr ml mw mgl mhd mre mag mkt mho mpc msd mki mdn mun mtk msv (by first | assumption | omega | rfl | decide) (by first | assumption | omega | rfl | decide)) (cwV 0 hts gX11_about_X11_fields rfl rfl rfl (by decide +kernel) ⟨Nat.le_of_ble_eq_true rfl, Nat.le_of_ble_eq_true rfl⟩) (kt_preV hN hK hPc hDc 0 (ci := 11) (q := (RX11, TX11, 29)) rfl rfl) rfl rfl hl.1 rfl (lv_room (Nat.le_of_ble_eq_true rfl)) dX11_about_158 ⟨Nat.le_of_ble_eq_true rfl, Nat.le_of_ble_eq_true rfl⟩) (fun r_158 _ H locs hw_158 hP hS => ?_)
        have h158 := hw_158.1
        exact kt_ri () hx hb hr hlk hS dX11_about_161 hP hD (by show kt_AB p1.toInt mho.toInt (if mho.toInt = 1 then msd.toInt else -1) (if mho.toInt = 0 then 0 else mpc.toInt) (if mho.toInt = 0 then 0 else (kt_ct kt_m1 fa P_ : Int)) (if mho.toInt = 0 then 0 else mdn.toInt) (ml.toInt * mw.toInt) (if mho.toInt = 0 then 0 else mun.toInt) ml.toInt (if mho.toInt = 0 then (-1) else mtk.toInt) r_158.toInt; first | ((have ejI := congrArg Int32.toInt ej); (simp only [kt_c0, kt_c1, kt_c2, kt_c3, kt_c4, kt_c8, kt_c9, kt_cm1, kt_c81, kt_c40, kt_c7, kt_c5, kt_c6, kt_c512, kt_c10, kt_c10000] at ejI); (refine ⟨fun h => ?_, fun h => ?_, fun h => ?_, fun h => ?_, fun h => ?_, fun h => ?_, fun h => ?_, fun h => ?_, fun h => ?_, fun h => ?_⟩ <;> first | (exfalso; omega) | exact h142 | exact h158 | rfl | (rw [if_pos (by omega)]; done) | (rw [if_neg (by omega)]; decide) | (rw [if_neg (hiz.t c_87)]; done) | (rw [if_pos (Classical.byContradiction (hiz.f c_87))]; decide) | (rw [if_neg (hiz.t c_145)]; done) | (rw [if_pos (Classical.byContradiction (hiz.f c_145))]; decide) | (rw [if_neg (hiz.t c_163)]; done) | (rw [if_pos (Classical.byContradiction (hiz.f c_163))]; decide) | (rw [if_neg (hiz.t c_181)]; done) | (rw [if_pos (Classical.byContradiction (hiz.f c_181))]; decide))) | (refine ⟨fun h => ?_, fun h => ?_, fun h => ?_, fun h => ?_, fun h => ?_, fun h => ?_, fun h => ?_, fun h => ?_, fun h => ?_, fun h => ?_⟩ <;> first | (exfalso; omega) | decide))
      · have ej : p1 = 6 := ej
        refine lv_tableIn (tgt := 162) (off := 148) hx hb dX11_about_14 (by rw [ej]; decide) (by rw [ej]; decide) (by rw [ej]; rfl) (by decide) ?_
        refine lv_iload_n hx hb dX11_about_162 rfl (lv_at hl 0 rfl) ?_
        refine lv_if_eq (tgt := 173) hx hb dX11_about_163 (by decide) (fun c_163 => ?_) (fun c_163 => ?_)
        · have d_163 := c_163
          simp only [kt_lt, kt_le, kt_eq, kt_c0, kt_c1, kt_c2, kt_c3, kt_c4, kt_c8, kt_c9, kt_cm1, kt_c81, kt_c40, kt_c7, kt_c5, kt_c6, kt_c512, kt_c10, kt_c10000] at d_163
          refine lv_iconst (v := 0) hx hb dX11_about_173 (by decide) ?_
          exact kt_ri () hx hb hr hlk hS dX11_about_174 hP hD (by show kt_AB p1.toInt mho.toInt (if mho.toInt = 1 then msd.toInt else -1) (if mho.toInt = 0 then 0 else mpc.toInt) (if mho.toInt = 0 then 0 else (kt_ct kt_m1 fa P_ : Int)) (if mho.toInt = 0 then 0 else mdn.toInt) (ml.toInt * mw.toInt) (if mho.toInt = 0 then 0 else mun.toInt) ml.toInt (if mho.toInt = 0 then (-1) else mtk.toInt) (0 : Int32).toInt; first | ((have ejI := congrArg Int32.toInt ej); (simp only [kt_c0, kt_c1, kt_c2, kt_c3, kt_c4, kt_c8, kt_c9, kt_cm1, kt_c81, kt_c40, kt_c7, kt_c5, kt_c6, kt_c512, kt_c10, kt_c10000] at ejI); (refine ⟨fun h => ?_, fun h => ?_, fun h => ?_, fun h => ?_, fun h => ?_, fun h => ?_, fun h => ?_, fun h => ?_, fun h => ?_, fun h => ?_⟩ <;> first | (exfalso; omega) | exact h142 | exact h158 | rfl | (rw [if_pos (by omega)]; done) | (rw [if_neg (by omega)]; decide) | (rw [if_neg (hiz.t c_87)]; done) | (rw [if_pos (Classical.byContradiction (hiz.f c_87))]; decide) | (rw [if_neg (hiz.t c_145)]; done) | (rw [if_pos (Classical.byContradiction (hiz.f c_145))]; decide) | (rw [if_neg (hiz.t c_163)]; done) | (rw [if_pos (Classical.byContradiction (hiz.f c_163))]; decide) | (rw [if_neg (hiz.t c_181)]; done) | (rw [if_pos (Classical.byContradiction (hiz.f c_181))]; decide))) | (refine ⟨fun h => ?_, fun h => ?_, fun h => ?_, fun h => ?_, fun h => ?_, fun h => ?_, fun h => ?_, fun h => ?_, fun h => ?_, fun h => ?_⟩ <;> first | (exfalso; omega) | decide))
        · have d_163 := c_163
          simp only [kt_lt, kt_le, kt_eq, kt_c0, kt_c1, kt_c2, kt_c3, kt_c4, kt_c8, kt_c9, kt_cm1, kt_c81, kt_c40, kt_c7, kt_c5, kt_c6, kt_c512, kt_c10, kt_c10000] at d_163
          refine lv_aload_n hx hb dX11_about_166 rfl (lv_at hl 1 rfl) ?_
          refine va_get (D := D) (ci := 11) (C := RX11) (T := TX11) (N := 29) hx hb hts iw_X11_about_X11 hown hK hP 0 rfl rfl 19 (by decide) (hts (.fieldLink RX11 141 "KingTableModel" "undone" "I") (List.mem_cons_of_mem _ (List.mem_append_left _ (List.mem_cons_of_mem _ (List.mem_cons_of_mem _ (List.mem_cons_of_mem _ (List.mem_cons_of_mem _ (List.mem_cons_of_mem _ (List.Mem.head _))))))))) (fun _ h9 => h9) rfl dX11_about_167 ?_
          refine lv_goto (tgt := 174) hx hb dX11_about_170 (by decide) ?_
          exact kt_ri () hx hb hr hlk hS dX11_about_174 hP hD (by show kt_AB p1.toInt mho.toInt (if mho.toInt = 1 then msd.toInt else -1) (if mho.toInt = 0 then 0 else mpc.toInt) (if mho.toInt = 0 then 0 else (kt_ct kt_m1 fa P_ : Int)) (if mho.toInt = 0 then 0 else mdn.toInt) (ml.toInt * mw.toInt) (if mho.toInt = 0 then 0 else mun.toInt) ml.toInt (if mho.toInt = 0 then (-1) else mtk.toInt) mun.toInt; first | ((have ejI := congrArg Int32.toInt ej); (simp only [kt_c0, kt_c1, kt_c2, kt_c3, kt_c4, kt_c8, kt_c9, kt_cm1, kt_c81, kt_c40, kt_c7, kt_c5, kt_c6, kt_c512, kt_c10, kt_c10000] at ejI); (refine ⟨fun h => ?_, fun h => ?_, fun h => ?_, fun h => ?_, fun h => ?_, fun h => ?_, fun h => ?_, fun h => ?_, fun h => ?_, fun h => ?_⟩ <;> first | (exfalso; omega) | exact h142 | exact h158 | rfl | (rw [if_pos (by omega)]; done) | (rw [if_neg (by omega)]; decide) | (rw [if_neg (hiz.t c_87)]; done) | (rw [if_pos (Classical.byContradiction (hiz.f c_87))]; decide) | (rw [if_neg (hiz.t c_145)]; done) | (rw [if_pos (Classical.byContradiction (hiz.f c_145))]; decide) | (rw [if_neg (hiz.t c_163)]; done) | (rw [if_pos (Classical.byContradiction (hiz.f c_163))]; decide) | (rw [if_neg (hiz.t c_181)]; done) | (rw [if_pos (Classical.byContradiction (hiz.f c_181))]; decide))) | (refine ⟨fun h => ?_, fun h => ?_, fun h => ?_, fun h => ?_, fun h => ?_, fun h => ?_, fun h => ?_, fun h => ?_, fun h => ?_, fun h => ?_⟩ <;> first | (exfalso; omega) | decide))
      · have ej : p1 = 7 := ej
        refine lv_tableIn (tgt := 175) (off := 161) hx hb dX11_about_14 (by rw [ej]; decide) (by rw [ej]; decide) (by rw [ej]; rfl) (by decide) ?_
        refine lv_aload_n hx hb dX11_about_175 rfl (lv_at hl 1 rfl) ?_
        refine va_get (D := D) (ci := 11) (C := RX11) (T := TX11) (N := 29) hx hb hts iw_X11_about_X11 hown hK hP 0 rfl rfl 0 (by decide) (hts (.fieldLink RX11 7 "KingTableModel" "lines" "I") (List.mem_cons_of_mem _ (List.mem_append_left _ (List.mem_cons_of_mem _ (List.mem_cons_of_mem _ (List.mem_cons_of_mem _ (List.mem_cons_of_mem _ (List.mem_cons_of_mem _ (List.mem_cons_of_mem _ (List.Mem.head _)))))))))) (fun _ h9 => h9) rfl dX11_about_176 ?_
        exact kt_ri () hx hb hr hlk hS dX11_about_179 hP hD (by show kt_AB p1.toInt mho.toInt (if mho.toInt = 1 then msd.toInt else -1) (if mho.toInt = 0 then 0 else mpc.toInt) (if mho.toInt = 0 then 0 else (kt_ct kt_m1 fa P_ : Int)) (if mho.toInt = 0 then 0 else mdn.toInt) (ml.toInt * mw.toInt) (if mho.toInt = 0 then 0 else mun.toInt) ml.toInt (if mho.toInt = 0 then (-1) else mtk.toInt) ml.toInt; first | ((have ejI := congrArg Int32.toInt ej); (simp only [kt_c0, kt_c1, kt_c2, kt_c3, kt_c4, kt_c8, kt_c9, kt_cm1, kt_c81, kt_c40, kt_c7, kt_c5, kt_c6, kt_c512, kt_c10, kt_c10000] at ejI); (refine ⟨fun h => ?_, fun h => ?_, fun h => ?_, fun h => ?_, fun h => ?_, fun h => ?_, fun h => ?_, fun h => ?_, fun h => ?_, fun h => ?_⟩ <;> first | (exfalso; omega) | exact h142 | exact h158 | rfl | (rw [if_pos (by omega)]; done) | (rw [if_neg (by omega)]; decide) | (rw [if_neg (hiz.t c_87)]; done) | (rw [if_pos (Classical.byContradiction (hiz.f c_87))]; decide) | (rw [if_neg (hiz.t c_145)]; done) | (rw [if_pos (Classical.byContradiction (hiz.f c_145))]; decide) | (rw [if_neg (hiz.t c_163)]; done) | (rw [if_pos (Classical.byContradiction (hiz.f c_163))]; decide) | (rw [if_neg (hiz.t c_181)]; done) | (rw [if_pos (Classical.byContradiction (hiz.f c_181))]; decide))) | (refine ⟨fun h => ?_, fun h => ?_, fun h => ?_, fun h => ?_, fun h => ?_, fun h => ?_, fun h => ?_, fun h => ?_, fun h => ?_, fun h => ?_⟩ <;> first | (exfalso; omega) | decide))
      · have ej : p1 = 8 := ej
        refine lv_tableIn (tgt := 180) (off := 166) hx hb dX11_about_14 (by rw [ej]; decide) (by rw [ej]; decide) (by rw [ej]; rfl) (by decide) ?_
        refine lv_iload_n hx hb dX11_about_180 rfl (lv_at hl 0 rfl) ?_
        refine lv_if_eq (tgt := 191) hx hb dX11_about_181 (by decide) (fun c_181 => ?_) (fun c_181 => ?_)
        · have d_181 := c_181
          simp only [kt_lt, kt_le, kt_eq, kt_c0, kt_c1, kt_c2, kt_c3, kt_c4, kt_c8, kt_c9, kt_cm1, kt_c81, kt_c40, kt_c7, kt_c5, kt_c6, kt_c512, kt_c10, kt_c10000] at d_181
          refine lv_iconst (v := (-1)) hx hb dX11_about_191 (by decide) ?_
          exact kt_ri () hx hb hr hlk hS dX11_about_192 hP hD (by show kt_AB p1.toInt mho.toInt (if mho.toInt = 1 then msd.toInt else -1) (if mho.toInt = 0 then 0 else mpc.toInt) (if mho.toInt = 0 then 0 else (kt_ct kt_m1 fa P_ : Int)) (if mho.toInt = 0 then 0 else mdn.toInt) (ml.toInt * mw.toInt) (if mho.toInt = 0 then 0 else mun.toInt) ml.toInt (if mho.toInt = 0 then (-1) else mtk.toInt) (-1 : Int32).toInt; first | ((have ejI := congrArg Int32.toInt ej); (simp only [kt_c0, kt_c1, kt_c2, kt_c3, kt_c4, kt_c8, kt_c9, kt_cm1, kt_c81, kt_c40, kt_c7, kt_c5, kt_c6, kt_c512, kt_c10, kt_c10000] at ejI); (refine ⟨fun h => ?_, fun h => ?_, fun h => ?_, fun h => ?_, fun h => ?_, fun h => ?_, fun h => ?_, fun h => ?_, fun h => ?_, fun h => ?_⟩ <;> first | (exfalso; omega) | exact h142 | exact h158 | rfl | (rw [if_pos (by omega)]; done) | (rw [if_neg (by omega)]; decide) | (rw [if_neg (hiz.t c_87)]; done) | (rw [if_pos (Classical.byContradiction (hiz.f c_87))]; decide) | (rw [if_neg (hiz.t c_145)]; done) | (rw [if_pos (Classical.byContradiction (hiz.f c_145))]; decide) | (rw [if_neg (hiz.t c_163)]; done) | (rw [if_pos (Classical.byContradiction (hiz.f c_163))]; decide) | (rw [if_neg (hiz.t c_181)]; done) | (rw [if_pos (Classical.byContradiction (hiz.f c_181))]; decide))) | (refine ⟨fun h => ?_, fun h => ?_, fun h => ?_, fun h => ?_, fun h => ?_, fun h => ?_, fun h => ?_, fun h => ?_, fun h => ?_, fun h => ?_⟩ <;> first | (exfalso; omega) | decide))
        · have d_181 := c_181
          simp only [kt_lt, kt_le, kt_eq, kt_c0, kt_c1, kt_c2, kt_c3, kt_c4, kt_c8, kt_c9, kt_cm1, kt_c81, kt_c40, kt_c7, kt_c5, kt_c6, kt_c512, kt_c10, kt_c10000] at d_181
          refine lv_aload_n hx hb dX11_about_184 rfl (lv_at hl 1 rfl) ?_
          refine va_get (D := D) (ci := 11) (C := RX11) (T := TX11) (N := 29) hx hb hts iw_X11_about_X11 hown hK hP 0 rfl rfl 21 (by decide) (hts (.fieldLink RX11 120 "KingTableModel" "tookMany" "I") (List.mem_cons_of_mem _ (List.mem_append_left _ (List.mem_cons_of_mem _ (List.mem_cons_of_mem _ (List.mem_cons_of_mem _ (List.mem_cons_of_mem _ (List.mem_cons_of_mem _ (List.mem_cons_of_mem _ (List.mem_cons_of_mem _ (List.Mem.head _))))))))))) (fun _ h9 => h9) rfl dX11_about_185 ?_
          refine lv_goto (tgt := 192) hx hb dX11_about_188 (by decide) ?_
          exact kt_ri () hx hb hr hlk hS dX11_about_192 hP hD (by show kt_AB p1.toInt mho.toInt (if mho.toInt = 1 then msd.toInt else -1) (if mho.toInt = 0 then 0 else mpc.toInt) (if mho.toInt = 0 then 0 else (kt_ct kt_m1 fa P_ : Int)) (if mho.toInt = 0 then 0 else mdn.toInt) (ml.toInt * mw.toInt) (if mho.toInt = 0 then 0 else mun.toInt) ml.toInt (if mho.toInt = 0 then (-1) else mtk.toInt) mtk.toInt; first | ((have ejI := congrArg Int32.toInt ej); (simp only [kt_c0, kt_c1, kt_c2, kt_c3, kt_c4, kt_c8, kt_c9, kt_cm1, kt_c81, kt_c40, kt_c7, kt_c5, kt_c6, kt_c512, kt_c10, kt_c10000] at ejI); (refine ⟨fun h => ?_, fun h => ?_, fun h => ?_, fun h => ?_, fun h => ?_, fun h => ?_, fun h => ?_, fun h => ?_, fun h => ?_, fun h => ?_⟩ <;> first | (exfalso; omega) | exact h142 | exact h158 | rfl | (rw [if_pos (by omega)]; done) | (rw [if_neg (by omega)]; decide) | (rw [if_neg (hiz.t c_87)]; done) | (rw [if_pos (Classical.byContradiction (hiz.f c_87))]; decide) | (rw [if_neg (hiz.t c_145)]; done) | (rw [if_pos (Classical.byContradiction (hiz.f c_145))]; decide) | (rw [if_neg (hiz.t c_163)]; done) | (rw [if_pos (Classical.byContradiction (hiz.f c_163))]; decide) | (rw [if_neg (hiz.t c_181)]; done) | (rw [if_pos (Classical.byContradiction (hiz.f c_181))]; decide))) | (refine ⟨fun h => ?_, fun h => ?_, fun h => ?_, fun h => ?_, fun h => ?_, fun h => ?_, fun h => ?_, fun h => ?_, fun h => ?_, fun h => ?_⟩ <;> first | (exfalso; omega) | decide))
  refine lv_if_le (tgt := 11) hx hb dX11_about_4 (by decide) (fun c_4 => ?_) (fun c_4 => ?_)
  · have d_4 := c_4
    simp only [kt_lt, kt_le, kt_eq, kt_c0, kt_c1, kt_c2, kt_c3, kt_c4, kt_c8, kt_c9, kt_cm1, kt_c81, kt_c40, kt_c7, kt_c5, kt_c6, kt_c512, kt_c10, kt_c10000] at d_4
    refine lv_iconst (v := 0) hx hb dX11_about_11 (by decide) ?_
    exact j_12 (0 : Int32) (by show kt_B (0 : Int32) (¬ mho.toInt = 0); first | exact Or.inl ⟨rfl, by omega⟩ | exact Or.inr ⟨rfl, by omega⟩) H _ hP hD hS ls (lv_sub hl [0, 1] rfl)
  · have d_4 := c_4
    simp only [kt_lt, kt_le, kt_eq, kt_c0, kt_c1, kt_c2, kt_c3, kt_c4, kt_c8, kt_c9, kt_cm1, kt_c81, kt_c40, kt_c7, kt_c5, kt_c6, kt_c512, kt_c10, kt_c10000] at d_4
    refine lv_iconst (v := 1) hx hb dX11_about_7 (by decide) ?_
    refine lv_goto (tgt := 12) hx hb dX11_about_8 (by decide) ?_
    exact j_12 (1 : Int32) (by show kt_B (1 : Int32) (¬ mho.toInt = 0); first | exact Or.inl ⟨rfl, by omega⟩ | exact Or.inr ⟨rfl, by omega⟩) H _ hP hD hS ls (lv_sub hl [0, 1] rfl)

set_option maxHeartbeats 4000000 in
set_option maxRecDepth 100000 in
theorem c_X11_onX (l : Launch) (D : va_G) (cI cZ cB : ClassId) (sz : Nat) (mx : Nat) (ms : Nat) (mk : Nat) (ma : Nat) (mo : Nat) (mg : Nat) (mm : Nat) (mt : Nat) (mn : Nat) (me : Nat) (mq : Nat) (mwo : Nat) (md : Nat) (mf : Nat) (mr : Nat) (ml : Int32) (mw : Int32) (mgl : Int32) (mhd : Int32) (mre : Int32) (mag : Int32) (mkt : Int32) (mho : Int32) (mpc : Int32) (msd : Int32) (mki : Int32) (mdn : Int32) (mun : Int32) (mtk : Int32) (msv : Int32) (fo : Nat → Int32) (p1 : Int32) (hml_ : 2 ≤ ml.toInt ∧ ml.toInt ≤ 9) (hmw : 2 ≤ mw.toInt ∧ mw.toInt ≤ 9) (hho : 0 ≤ mho.toInt ∧ mho.toInt ≤ 4) : kt_Mi l yX11_on wsX11_on { frames := 1, cells := 0, slots := 0, locals := 22 } D (kt_ty cI cZ cB) [.ref mx, .int p1] sz [(mx, .inr (11, [.int ml, .int mw, .ref ms, .int mgl, .int mhd, .int mre, .int mag, .int mkt, .int mho, .int mpc, .int msd, .int mki, .ref mk, .ref ma, .ref mo, .ref mg, .ref mm, .ref mt, .int mdn, .int mun, .ref mn, .int mtk, .ref me, .ref mq, .int msv, .ref mwo, .ref md, .ref mf, .ref mr])), (mo, .inl (cI, 81, .inl fo))] (fun (r : Int32) (u : Unit) => ((¬ mho.toInt = 0 ∧ 0 ≤ p1.toInt ∧ p1.toInt < ml.toInt * mw.toInt) → r = fo p1.toNatClampNeg) ∧ (¬ (¬ mho.toInt = 0 ∧ 0 ≤ p1.toInt ∧ p1.toInt < ml.toInt * mw.toInt) → r = -1)) (fun (u : Unit) => [(mx, .inr (11, [.int ml, .int mw, .ref ms, .int mgl, .int mhd, .int mre, .int mag, .int mkt, .int mho, .int mpc, .int msd, .int mki, .ref mk, .ref ma, .ref mo, .ref mg, .ref mm, .ref mt, .int mdn, .int mun, .ref mn, .int mtk, .ref me, .ref mq, .int msv, .ref mwo, .ref md, .ref mf, .ref mr])), (mo, .inl (cI, 81, .inl fo))]) 0 0 := by
  refine kt_Mi.of (cc := cX11_on) (maxL := 2) (ret := some .int) (by decide) rfl (Nat.le_of_ble_eq_true rfl) ?_
  intro p e s m below meth c A ls H hAt hP hD hS hl
  obtain ⟨hx, hb, hr, hml, hown, hts, hN, hK, hlk, hnm, hA⟩ := hAt
  have hl : lv_has ls 2 [(0, .ref mx), (1, .int p1)] := hl
  have hown : s.vm.findClass RX11 = some m.cls := hown
  have hsb := kt_mulb hml_ hmw
  refine lv_aload_n hx hb dX11_on_0 rfl (lv_at hl 0 rfl) ?_
  refine va_get (D := D) (ci := 11) (C := RX11) (T := TX11) (N := 29) hx hb hts iw_X11_on_X11 hown hK hP 0 rfl rfl 8 (by decide) (hts (.fieldLink RX11 73 "KingTableModel" "how" "I") (List.mem_cons_of_mem _ (List.mem_append_left _ (List.Mem.head _)))) (fun _ h9 => h9) rfl dX11_on_1 ?_
  refine lv_if_le (tgt := 30) hx hb dX11_on_4 (by decide) (fun c_4 => ?_) (fun c_4 => ?_)
  · have d_4 := c_4
    simp only [kt_lt, kt_le, kt_eq, kt_c0, kt_c1, kt_c2, kt_c3, kt_c4, kt_c8, kt_c9, kt_cm1, kt_c81, kt_c40, kt_c7, kt_c5, kt_c6, kt_c512, kt_c10, kt_c10000] at d_4
    refine lv_iconst (v := (-1)) hx hb dX11_on_30 (by decide) ?_
    exact kt_ri () hx hb hr hlk hS dX11_on_31 hP hD (by show ((¬ mho.toInt = 0 ∧ 0 ≤ p1.toInt ∧ p1.toInt < ml.toInt * mw.toInt) → (-1 : Int32) = fo p1.toNatClampNeg) ∧ (¬ (¬ mho.toInt = 0 ∧ 0 ≤ p1.toInt ∧ p1.toInt < ml.toInt * mw.toInt) → (-1 : Int32) = -1); first | exact ⟨fun _ => ea_26, fun h => absurd (by omega) h⟩ | exact ⟨fun h => by exfalso; omega, fun _ => rfl⟩ | exact ⟨fun h => absurd (by omega) (hw_15.f c_18), fun _ => rfl⟩)
  · have d_4 := c_4
    simp only [kt_lt, kt_le, kt_eq, kt_c0, kt_c1, kt_c2, kt_c3, kt_c4, kt_c8, kt_c9, kt_cm1, kt_c81, kt_c40, kt_c7, kt_c5, kt_c6, kt_c512, kt_c10, kt_c10000] at d_4
    refine lv_iload_n hx hb dX11_on_7 rfl (lv_at hl 1 rfl) ?_
    refine lv_iconst (v := 0) hx hb dX11_on_8 (by decide) ?_
    refine lv_aload_n hx hb dX11_on_9 rfl (lv_at hl 0 rfl) ?_
    refine kt_pi (wc := [(mx, .inr (11, [.int ml, .int mw, .ref ms, .int mgl, .int mhd, .int mre, .int mag, .int mkt, .int mho, .int mpc, .int msd, .int mki, .ref mk, .ref ma, .ref mo, .ref mg, .ref mm, .ref mt, .int mdn, .int mun, .ref mn, .int mtk, .ref me, .ref mq, .int msv, .ref mwo, .ref md, .ref mf, .ref mr]))]) [0] hP hD hS hA rfl (by decide) (fun hPc hDc => va_runV (As := []) (rest := [.int 0, .int p1]) ⟨hx, hb, hml, hown, hts⟩ (c_X11_fields l D cI cZ cB H.size mx ms mk ma mo mg mm mt mn me mq mwo md mf mr ml mw mgl mhd mre mag mkt mho mpc msd mki mdn mun mtk msv (by first | assumption | omega | rfl | decide) (by first | assumption | omega | rfl | decide)) (cwV 0 hts gX11_on_X11_fields rfl rfl rfl (by decide +kernel) ⟨Nat.le_of_ble_eq_true rfl, Nat.le_of_ble_eq_true rfl⟩) (kt_preV hN hK hPc hDc 0 (ci := 11) (q := (RX11, TX11, 29)) rfl rfl) rfl rfl hl.1 rfl (lv_room (Nat.le_of_ble_eq_true rfl)) dX11_on_10 ⟨Nat.le_of_ble_eq_true rfl, Nat.le_of_ble_eq_true rfl⟩) (fun r_10 _ H locs hw_10 hP hS => ?_)
    refine lv_iconst (v := 1) hx hb dX11_on_13 (by decide) ?_
    refine lv_isub hx hb dX11_on_14 ?_
    refine lv_topi (fun t_14 et_14 => ?_)
    first | have hk_14 := kt_subx et_14 (by first | omega | (simp only [kt_c0, kt_c1, kt_c2, kt_c3, kt_c4, kt_c8, kt_c9, kt_cm1, kt_c81, kt_c40, kt_c7, kt_c5, kt_c6, kt_c512, kt_c10, kt_c10000]; omega)) (by first | omega | (simp only [kt_c0, kt_c1, kt_c2, kt_c3, kt_c4, kt_c8, kt_c9, kt_cm1, kt_c81, kt_c40, kt_c7, kt_c5, kt_c6, kt_c512, kt_c10, kt_c10000]; omega)) | obtain ⟨k_14, hk_14, hm_14, hM_14⟩ := kt_subk et_14
    try simp only [kt_c0, kt_c1, kt_c2, kt_c3, kt_c4, kt_c8, kt_c9, kt_cm1, kt_c81, kt_c40, kt_c7, kt_c5, kt_c6, kt_c512, kt_c10, kt_c10000] at hk_14
    refine kt_pi (wc := []) [] hP hD hS hA rfl (by decide) (fun hPc hDc => va_runS (As := [.int p1, .int 0, .int t_14]) (rest := []) ⟨hx, hb, hml, hown, hts⟩ (c_X11_isIn l D cI cZ cB H.size p1 0 t_14 ) (va_cwS 3 hts gX11_on_X11_isIn rfl rfl rfl (by decide +kernel) ⟨Nat.le_of_ble_eq_true rfl, Nat.le_of_ble_eq_true rfl⟩) (kt_preS hN hK hPc hDc) rfl rfl hl.1 rfl (lv_room (Nat.le_of_ble_eq_true rfl)) dX11_on_15 ⟨Nat.le_of_ble_eq_true rfl, Nat.le_of_ble_eq_true rfl⟩) (fun r_15 _ H locs hw_15 hP hS => ?_)
    simp only [kt_c0] at hw_15
    refine lv_if_eq (tgt := 30) hx hb dX11_on_18 (by decide) (fun c_18 => ?_) (fun c_18 => ?_)
    · have d_18 := c_18
      simp only [kt_lt, kt_le, kt_eq, kt_c0, kt_c1, kt_c2, kt_c3, kt_c4, kt_c8, kt_c9, kt_cm1, kt_c81, kt_c40, kt_c7, kt_c5, kt_c6, kt_c512, kt_c10, kt_c10000] at d_18
      refine lv_iconst (v := (-1)) hx hb dX11_on_30 (by decide) ?_
      exact kt_ri () hx hb hr hlk hS dX11_on_31 hP hD (by show ((¬ mho.toInt = 0 ∧ 0 ≤ p1.toInt ∧ p1.toInt < ml.toInt * mw.toInt) → (-1 : Int32) = fo p1.toNatClampNeg) ∧ (¬ (¬ mho.toInt = 0 ∧ 0 ≤ p1.toInt ∧ p1.toInt < ml.toInt * mw.toInt) → (-1 : Int32) = -1); first | exact ⟨fun _ => ea_26, fun h => absurd (by omega) h⟩ | exact ⟨fun h => by exfalso; omega, fun _ => rfl⟩ | exact ⟨fun h => absurd (by omega) (hw_15.f c_18), fun _ => rfl⟩)
    · have d_18 := c_18
      simp only [kt_lt, kt_le, kt_eq, kt_c0, kt_c1, kt_c2, kt_c3, kt_c4, kt_c8, kt_c9, kt_cm1, kt_c81, kt_c40, kt_c7, kt_c5, kt_c6, kt_c512, kt_c10, kt_c10000] at d_18
      have hq1 := hw_15.t c_18
      refine lv_aload_n hx hb dX11_on_21 rfl (lv_at hl 0 rfl) ?_
      refine va_get (D := D) (ci := 11) (C := RX11) (T := TX11) (N := 29) hx hb hts iw_X11_on_X11 hown hK hP 0 rfl rfl 14 (by decide) (hts (.fieldLink RX11 33 "KingTableModel" "on" "[I") (List.mem_cons_of_mem _ (List.mem_append_left _ (List.mem_cons_of_mem _ (List.Mem.head _))))) (fun _ h9 => h9) rfl dX11_on_22 ?_
      refine lv_iload_n hx hb dX11_on_25 rfl (lv_at hl 1 rfl) ?_
      have hi_1 : vp_in p1 81 := by exact kt_in (by omega) (by omega)
      refine va_iald hx hb hK hP 1 0 rfl rfl hi_1 dX11_on_26 ?_
      refine lv_topi (fun a_26 ea_26 => ?_)
      refine lv_goto (tgt := 31) hx hb dX11_on_27 (by decide) ?_
      exact kt_ri () hx hb hr hlk hS dX11_on_31 hP hD (by show ((¬ mho.toInt = 0 ∧ 0 ≤ p1.toInt ∧ p1.toInt < ml.toInt * mw.toInt) → a_26 = fo p1.toNatClampNeg) ∧ (¬ (¬ mho.toInt = 0 ∧ 0 ≤ p1.toInt ∧ p1.toInt < ml.toInt * mw.toInt) → a_26 = -1); first | exact ⟨fun _ => ea_26, fun h => absurd (by omega) h⟩ | exact ⟨fun h => by exfalso; omega, fun _ => rfl⟩ | exact ⟨fun h => absurd (by omega) (hw_15.f c_18), fun _ => rfl⟩)

set_option maxHeartbeats 4000000 in
set_option maxRecDepth 100000 in
theorem c_X11_tookX (l : Launch) (D : va_G) (cI cZ cB : ClassId) (sz : Nat) (mx : Nat) (ms : Nat) (mk : Nat) (ma : Nat) (mo : Nat) (mg : Nat) (mm : Nat) (mt : Nat) (mn : Nat) (me : Nat) (mq : Nat) (mwo : Nat) (md : Nat) (mf : Nat) (mr : Nat) (ml : Int32) (mw : Int32) (mgl : Int32) (mhd : Int32) (mre : Int32) (mag : Int32) (mkt : Int32) (mho : Int32) (mpc : Int32) (msd : Int32) (mki : Int32) (mdn : Int32) (mun : Int32) (mtk : Int32) (msv : Int32) (P_ : Nat) (fa : Nat → Int32) (fo : Nat → Int32) (fr : Nat → Int32) (fk : Nat → Int32) (ft : Nat → Int32) (gs_ : Nat → Int32) (mv : Nat → Int32) (p1 : Int32) (hho : 0 ≤ mho.toInt ∧ mho.toInt ≤ 4) (hpcx : ¬ mho.toInt = 0 → (P_ : Int) = mpc.toInt ∧ P_ ≤ 40) (hmtx : ¬ mho.toInt = 0 → mtk.toInt ≤ (kt_ct kt_nz ft P_ : Int)) : kt_Mi l yX11_took wsX11_took { frames := 0, cells := 0, slots := 0, locals := 0 } D (kt_ty cI cZ cB) [.ref mx, .int p1] sz [(mx, .inr (11, [.int ml, .int mw, .ref ms, .int mgl, .int mhd, .int mre, .int mag, .int mkt, .int mho, .int mpc, .int msd, .int mki, .ref mk, .ref ma, .ref mo, .ref mg, .ref mm, .ref mt, .int mdn, .int mun, .ref mn, .int mtk, .ref me, .ref mq, .int msv, .ref mwo, .ref md, .ref mf, .ref mr])), (mn, .inl (cZ, 40, .inl ft))] (fun (r : Int32) (u : Unit) => ((¬ mho.toInt = 0 ∧ 0 ≤ p1.toInt ∧ p1.toInt < mtk.toInt) → ∃ q : Nat, q < P_ ∧ r = nI q ∧ ¬ ft q = 0 ∧ (kt_ct kt_nz ft q : Int) = p1.toInt) ∧ (¬ (¬ mho.toInt = 0 ∧ 0 ≤ p1.toInt ∧ p1.toInt < mtk.toInt) → r = -1)) (fun (u : Unit) => [(mx, .inr (11, [.int ml, .int mw, .ref ms, .int mgl, .int mhd, .int mre, .int mag, .int mkt, .int mho, .int mpc, .int msd, .int mki, .ref mk, .ref ma, .ref mo, .ref mg, .ref mm, .ref mt, .int mdn, .int mun, .ref mn, .int mtk, .ref me, .ref mq, .int msv, .ref mwo, .ref md, .ref mf, .ref mr])), (mn, .inl (cZ, 40, .inl ft))]) 0 0 := by
  refine kt_Mi.of (cc := cX11_took) (maxL := 4) (ret := some .int) (by decide) rfl (Nat.le_of_ble_eq_true rfl) ?_
  intro p e s m below meth c A ls H hAt hP hD hS hl
  obtain ⟨hx, hb, hr, hml, hown, hts, hN, hK, hlk, hnm, hA⟩ := hAt
  have hl : lv_has ls 4 [(0, .ref mx), (1, .int p1)] := hl
  have hown : s.vm.findClass RX11 = some m.cls := hown
  refine lv_aload_n hx hb dX11_took_0 rfl (lv_at hl 0 rfl) ?_
  refine va_get (D := D) (ci := 11) (C := RX11) (T := TX11) (N := 29) hx hb hts iw_X11_took_X11 hown hK hP 0 rfl rfl 8 (by decide) (hts (.fieldLink RX11 73 "KingTableModel" "how" "I") (List.mem_cons_of_mem _ (List.mem_append_left _ (List.Mem.head _)))) (fun _ h9 => h9) rfl dX11_took_1 ?_
  refine lv_if_eq (tgt := 19) hx hb dX11_took_4 (by decide) (fun c_4 => ?_) (fun c_4 => ?_)
  · have d_4 := c_4
    simp only [kt_lt, kt_le, kt_eq, kt_c0, kt_c1, kt_c2, kt_c3, kt_c4, kt_c8, kt_c9, kt_cm1, kt_c81, kt_c40, kt_c7, kt_c5, kt_c6, kt_c512, kt_c10, kt_c10000] at d_4
    refine lv_iconst (v := (-1)) hx hb dX11_took_19 (by decide) ?_
    exact kt_ri () hx hb hr hlk hS dX11_took_20 hP hD (by show ((¬ mho.toInt = 0 ∧ 0 ≤ p1.toInt ∧ p1.toInt < mtk.toInt) → ∃ q : Nat, q < P_ ∧ (-1 : Int32) = nI q ∧ ¬ ft q = 0 ∧ (kt_ct kt_nz ft q : Int) = p1.toInt) ∧ (¬ (¬ mho.toInt = 0 ∧ 0 ≤ p1.toInt ∧ p1.toInt < mtk.toInt) → (-1 : Int32) = -1); first
         | exact ⟨fun h => by exfalso; omega, fun _ => rfl⟩
         | exact ⟨fun _ => ⟨k, by omega, rfl, by rw [← e38]; exact c_39, by omega⟩, fun h => absurd (by omega) h⟩
         | (exfalso; have hkP : k = P_ := (by omega); rw [hkP] at hlf; omega))
  · have d_4 := c_4
    simp only [kt_lt, kt_le, kt_eq, kt_c0, kt_c1, kt_c2, kt_c3, kt_c4, kt_c8, kt_c9, kt_cm1, kt_c81, kt_c40, kt_c7, kt_c5, kt_c6, kt_c512, kt_c10, kt_c10000] at d_4
    refine lv_iload_n hx hb dX11_took_7 rfl (lv_at hl 1 rfl) ?_
    refine lv_if_lt (tgt := 19) hx hb dX11_took_8 (by decide) (fun c_8 => ?_) (fun c_8 => ?_)
    · have d_8 := c_8
      simp only [kt_lt, kt_le, kt_eq, kt_c0, kt_c1, kt_c2, kt_c3, kt_c4, kt_c8, kt_c9, kt_cm1, kt_c81, kt_c40, kt_c7, kt_c5, kt_c6, kt_c512, kt_c10, kt_c10000] at d_8
      refine lv_iconst (v := (-1)) hx hb dX11_took_19 (by decide) ?_
      exact kt_ri () hx hb hr hlk hS dX11_took_20 hP hD (by show ((¬ mho.toInt = 0 ∧ 0 ≤ p1.toInt ∧ p1.toInt < mtk.toInt) → ∃ q : Nat, q < P_ ∧ (-1 : Int32) = nI q ∧ ¬ ft q = 0 ∧ (kt_ct kt_nz ft q : Int) = p1.toInt) ∧ (¬ (¬ mho.toInt = 0 ∧ 0 ≤ p1.toInt ∧ p1.toInt < mtk.toInt) → (-1 : Int32) = -1); first
           | exact ⟨fun h => by exfalso; omega, fun _ => rfl⟩
           | exact ⟨fun _ => ⟨k, by omega, rfl, by rw [← e38]; exact c_39, by omega⟩, fun h => absurd (by omega) h⟩
           | (exfalso; have hkP : k = P_ := (by omega); rw [hkP] at hlf; omega))
    · have d_8 := c_8
      simp only [kt_lt, kt_le, kt_eq, kt_c0, kt_c1, kt_c2, kt_c3, kt_c4, kt_c8, kt_c9, kt_cm1, kt_c81, kt_c40, kt_c7, kt_c5, kt_c6, kt_c512, kt_c10, kt_c10000] at d_8
      refine lv_iload_n hx hb dX11_took_11 rfl (lv_at hl 1 rfl) ?_
      refine lv_aload_n hx hb dX11_took_12 rfl (lv_at hl 0 rfl) ?_
      refine va_get (D := D) (ci := 11) (C := RX11) (T := TX11) (N := 29) hx hb hts iw_X11_took_X11 hown hK hP 0 rfl rfl 21 (by decide) (hts (.fieldLink RX11 120 "KingTableModel" "tookMany" "I") (List.mem_cons_of_mem _ (List.mem_append_left _ (List.mem_cons_of_mem _ (List.Mem.head _))))) (fun _ h9 => h9) rfl dX11_took_13 ?_
      refine lv_icmp_lt (tgt := 21) hx hb dX11_took_16 (by decide) (fun c_16 => ?_) (fun c_16 => ?_)
      · have d_16 := c_16
        simp only [kt_lt, kt_le, kt_eq, kt_c0, kt_c1, kt_c2, kt_c3, kt_c4, kt_c8, kt_c9, kt_cm1, kt_c81, kt_c40, kt_c7, kt_c5, kt_c6, kt_c512, kt_c10, kt_c10000] at d_16
        have hpcy := hpcx (by omega)
        have hmty := hmtx (by omega)
        have hclP := kt_ct_le kt_nz ft P_
        refine lv_iload_n hx hb dX11_took_21 rfl (lv_at hl 1 rfl) ?_
        refine lv_istore_n (lv' := [(2, .int p1), (0, .ref mx), (1, .int p1)]) hx hb dX11_took_22 rfl hl (by decide) rfl (fun ls hl => ?_)
        refine lv_iconst (v := 0) hx hb dX11_took_23 (by decide) ?_
        refine lv_istore_n (lv' := [(3, .int 0), (2, .int p1), (0, .ref mx), (1, .int p1)]) hx hb dX11_took_24 rfl hl (by decide) rfl (fun ls hl => ?_)
        refine kt_loop (σ := Nat × Int32) 25 4 (fun u => [(mx, .inr (11, [.int ml, .int mw, .ref ms, .int mgl, .int mhd, .int mre, .int mag, .int mkt, .int mho, .int mpc, .int msd, .int mki, .ref mk, .ref ma, .ref mo, .ref mg, .ref mm, .ref mt, .int mdn, .int mun, .ref mn, .int mtk, .ref me, .ref mq, .int msv, .ref mwo, .ref md, .ref mf, .ref mr])), (mn, .inl (cZ, 40, .inl ft))]) (fun u => [(3, .int (nI u.1)), (2, .int u.2), (0, .ref mx), (1, .int p1)]) (fun n u => (u.1 ≤ 40 ∧ 40 < u.1 + n ∧ u.1 ≤ P_) ∧ u.2.toInt = p1.toInt - (kt_ct kt_nz ft u.1 : Int) ∧ 0 ≤ u.2.toInt) (fun u h => by omega) (fun n_25 ih_25 u hI H locs hP hD hS ls hl => ?_) (41) (0, p1) (by show (0 ≤ 40 ∧ 40 < 0 + 41 ∧ 0 ≤ P_) ∧ p1.toInt = p1.toInt - (kt_ct kt_nz ft 0 : Int) ∧ 0 ≤ p1.toInt; exact ⟨⟨by decide, by decide, by omega⟩, by show _ = _ - ((0 : Nat) : Int); omega, by omega⟩) hP hD hS (lv_sub hl [0, 1, 2, 3] rfl)
        obtain ⟨k, lf⟩ := u
        have hP : va_P D vwCl [(mx, .inr (11, [.int ml, .int mw, .ref ms, .int mgl, .int mhd, .int mre, .int mag, .int mkt, .int mho, .int mpc, .int msd, .int mki, .ref mk, .ref ma, .ref mo, .ref mg, .ref mm, .ref mt, .int mdn, .int mun, .ref mn, .int mtk, .ref me, .ref mq, .int msv, .ref mwo, .ref md, .ref mf, .ref mr])), (mn, .inl (cZ, 40, .inl ft))] H := hP
        have hD : va_D A [(mx, .inr (11, [.int ml, .int mw, .ref ms, .int mgl, .int mhd, .int mre, .int mag, .int mkt, .int mho, .int mpc, .int msd, .int mki, .ref mk, .ref ma, .ref mo, .ref mg, .ref mm, .ref mt, .int mdn, .int mun, .ref mn, .int mtk, .ref me, .ref mq, .int msv, .ref mwo, .ref md, .ref mf, .ref mr])), (mn, .inl (cZ, 40, .inl ft))] := hD
        have hl : lv_has ls 4 [(3, .int (nI k)), (2, .int lf), (0, .ref mx), (1, .int p1)] := hl
        have hI : (k ≤ 40 ∧ 40 < k + (n_25 + 1) ∧ k ≤ P_) ∧ lf.toInt = p1.toInt - (kt_ct kt_nz ft k : Int) ∧ 0 ≤ lf.toInt := hI
        obtain ⟨hkb, hlf, hl0⟩ := hI
        have hk0 := kt_nI (n := k) (by omega)
        have hcl := kt_ct_le kt_nz ft k
        refine lv_iload_n hx hb dX11_took_25 rfl (lv_at hl 0 rfl) ?_
        refine lv_aload_n hx hb dX11_took_26 rfl (lv_at hl 2 rfl) ?_
        refine va_get (D := D) (ci := 11) (C := RX11) (T := TX11) (N := 29) hx hb hts iw_X11_took_X11 hown hK hP 0 rfl rfl 9 (by decide) (hts (.fieldLink RX11 103 "KingTableModel" "pieces" "I") (List.mem_cons_of_mem _ (List.mem_append_left _ (List.mem_cons_of_mem _ (List.mem_cons_of_mem _ (List.Mem.head _)))))) (fun _ h9 => h9) rfl dX11_took_27 ?_
        refine lv_icmp_ge (tgt := 60) hx hb dX11_took_30 (by decide) (fun c_30 => ?_) (fun c_30 => ?_)
        · have d_30 := c_30
          simp only [kt_lt, kt_le, kt_eq, kt_c0, kt_c1, kt_c2, kt_c3, kt_c4, kt_c8, kt_c9, kt_cm1, kt_c81, kt_c40, kt_c7, kt_c5, kt_c6, kt_c512, kt_c10, kt_c10000] at d_30
          refine lv_iconst (v := (-1)) hx hb dX11_took_60 (by decide) ?_
          exact kt_ri () hx hb hr hlk hS dX11_took_61 hP hD (by show ((¬ mho.toInt = 0 ∧ 0 ≤ p1.toInt ∧ p1.toInt < mtk.toInt) → ∃ q : Nat, q < P_ ∧ (-1 : Int32) = nI q ∧ ¬ ft q = 0 ∧ (kt_ct kt_nz ft q : Int) = p1.toInt) ∧ (¬ (¬ mho.toInt = 0 ∧ 0 ≤ p1.toInt ∧ p1.toInt < mtk.toInt) → (-1 : Int32) = -1); first
               | exact ⟨fun h => by exfalso; omega, fun _ => rfl⟩
               | exact ⟨fun _ => ⟨k, by omega, rfl, by rw [← e38]; exact c_39, by omega⟩, fun h => absurd (by omega) h⟩
               | (exfalso; have hkP : k = P_ := (by omega); rw [hkP] at hlf; omega))
        · have d_30 := c_30
          simp only [kt_lt, kt_le, kt_eq, kt_c0, kt_c1, kt_c2, kt_c3, kt_c4, kt_c8, kt_c9, kt_cm1, kt_c81, kt_c40, kt_c7, kt_c5, kt_c6, kt_c512, kt_c10, kt_c10000] at d_30
          refine lv_aload_n hx hb dX11_took_33 rfl (lv_at hl 2 rfl) ?_
          refine va_get (D := D) (ci := 11) (C := RX11) (T := TX11) (N := 29) hx hb hts iw_X11_took_X11 hown hK hP 0 rfl rfl 20 (by decide) (hts (.fieldLink RX11 47 "KingTableModel" "taken" "[Z") (List.mem_cons_of_mem _ (List.mem_append_left _ (List.mem_cons_of_mem _ (List.mem_cons_of_mem _ (List.mem_cons_of_mem _ (List.Mem.head _))))))) (fun _ h9 => h9) rfl dX11_took_34 ?_
          refine lv_iload_n hx hb dX11_took_37 rfl (lv_at hl 0 rfl) ?_
          have hi_1 : vp_in (nI k) 40 := by exact kt_in (by omega) (by omega)
          refine va_zald hx hb hK hP 1 1 rfl rfl hi_1 dX11_took_38 ?_
          refine lv_topi (fun a_38 ea_38 => ?_)
          have e38 : a_38 = ft k := by rw [ea_38, nI_clamp (by omega)]
          refine lv_if_ne (tgt := 45) hx hb dX11_took_39 (by decide) (fun c_39 => ?_) (fun c_39 => ?_)
          · have d_39 := c_39
            simp only [kt_lt, kt_le, kt_eq, kt_c0, kt_c1, kt_c2, kt_c3, kt_c4, kt_c8, kt_c9, kt_cm1, kt_c81, kt_c40, kt_c7, kt_c5, kt_c6, kt_c512, kt_c10, kt_c10000] at d_39
            refine lv_iload_n hx hb dX11_took_45 rfl (lv_at hl 1 rfl) ?_
            refine lv_if_ne (tgt := 51) hx hb dX11_took_46 (by decide) (fun c_46 => ?_) (fun c_46 => ?_)
            · have d_46 := c_46
              simp only [kt_lt, kt_le, kt_eq, kt_c0, kt_c1, kt_c2, kt_c3, kt_c4, kt_c8, kt_c9, kt_cm1, kt_c81, kt_c40, kt_c7, kt_c5, kt_c6, kt_c512, kt_c10, kt_c10000] at d_46
              obtain ⟨t_51, et_51⟩ : ∃ y : Int32, y = lf + (-1) := ⟨_, rfl⟩
              obtain ⟨k_51, hk_51, hm_51, hM_51⟩ := kt_addk et_51
              try simp only [kt_c0, kt_c1, kt_c2, kt_c3, kt_c4, kt_c8, kt_c9, kt_cm1, kt_c81, kt_c40, kt_c7, kt_c5, kt_c6, kt_c512, kt_c10, kt_c10000] at hk_51
              refine lv_iinc (v := t_51) (lv' := [(2, .int t_51), (3, .int (nI k)), (0, .ref mx), (1, .int p1)]) hx hb dX11_took_51 hl (k := 1) rfl (by rw [et_51]; rfl) (by decide) rfl (fun ls hl => ?_)
              refine lv_iinc (v := nI (k + 1)) (lv' := [(3, .int (nI (k + 1))), (2, .int t_51), (0, .ref mx), (1, .int p1)]) hx hb dX11_took_54 hl (k := 1) rfl (nI_1 _) (by decide) rfl (fun ls hl => ?_)
              refine lv_goto (tgt := 25) hx hb dX11_took_57 (by decide) ?_
              exact ih_25 ((k + 1), t_51) (by show ((k + 1) ≤ 40 ∧ 40 < (k + 1) + n_25 ∧ (k + 1) ≤ P_) ∧ t_51.toInt = p1.toInt - (kt_ct kt_nz ft (k + 1) : Int) ∧ 0 ≤ t_51.toInt; first | exact ⟨by omega, by rw [kt_ct_no (by unfold kt_nz; rw [← e38, c_39]; decide)]; exact hlf, hl0⟩ | exact ⟨by omega, by rw [kt_ct_yes (by unfold kt_nz; rw [← e38]; exact decide_eq_true c_39)]; omega, by omega⟩) H _ hP hD hS ls (lv_sub hl [0, 1, 2, 3] rfl)
            · have d_46 := c_46
              simp only [kt_lt, kt_le, kt_eq, kt_c0, kt_c1, kt_c2, kt_c3, kt_c4, kt_c8, kt_c9, kt_cm1, kt_c81, kt_c40, kt_c7, kt_c5, kt_c6, kt_c512, kt_c10, kt_c10000] at d_46
              refine lv_iload_n hx hb dX11_took_49 rfl (lv_at hl 0 rfl) ?_
              exact kt_ri () hx hb hr hlk hS dX11_took_50 hP hD (by show ((¬ mho.toInt = 0 ∧ 0 ≤ p1.toInt ∧ p1.toInt < mtk.toInt) → ∃ q : Nat, q < P_ ∧ (nI k) = nI q ∧ ¬ ft q = 0 ∧ (kt_ct kt_nz ft q : Int) = p1.toInt) ∧ (¬ (¬ mho.toInt = 0 ∧ 0 ≤ p1.toInt ∧ p1.toInt < mtk.toInt) → (nI k) = -1); first
                   | exact ⟨fun h => by exfalso; omega, fun _ => rfl⟩
                   | exact ⟨fun _ => ⟨k, by omega, rfl, by rw [← e38]; exact c_39, by omega⟩, fun h => absurd (by omega) h⟩
                   | (exfalso; have hkP : k = P_ := (by omega); rw [hkP] at hlf; omega))
          · have d_39 := c_39
            simp only [kt_lt, kt_le, kt_eq, kt_c0, kt_c1, kt_c2, kt_c3, kt_c4, kt_c8, kt_c9, kt_cm1, kt_c81, kt_c40, kt_c7, kt_c5, kt_c6, kt_c512, kt_c10, kt_c10000] at d_39
            refine lv_goto (tgt := 54) hx hb dX11_took_42 (by decide) ?_
            refine lv_iinc (v := nI (k + 1)) (lv' := [(3, .int (nI (k + 1))), (2, .int lf), (0, .ref mx), (1, .int p1)]) hx hb dX11_took_54 hl (k := 0) rfl (nI_1 _) (by decide) rfl (fun ls hl => ?_)
            refine lv_goto (tgt := 25) hx hb dX11_took_57 (by decide) ?_
            exact ih_25 ((k + 1), lf) (by show ((k + 1) ≤ 40 ∧ 40 < (k + 1) + n_25 ∧ (k + 1) ≤ P_) ∧ lf.toInt = p1.toInt - (kt_ct kt_nz ft (k + 1) : Int) ∧ 0 ≤ lf.toInt; first | exact ⟨by omega, by rw [kt_ct_no (by unfold kt_nz; rw [← e38, c_39]; decide)]; exact hlf, hl0⟩ | exact ⟨by omega, by rw [kt_ct_yes (by unfold kt_nz; rw [← e38]; exact decide_eq_true c_39)]; omega, by omega⟩) H _ hP hD hS ls (lv_sub hl [0, 1, 2, 3] rfl)
      · have d_16 := c_16
        simp only [kt_lt, kt_le, kt_eq, kt_c0, kt_c1, kt_c2, kt_c3, kt_c4, kt_c8, kt_c9, kt_cm1, kt_c81, kt_c40, kt_c7, kt_c5, kt_c6, kt_c512, kt_c10, kt_c10000] at d_16
        refine lv_iconst (v := (-1)) hx hb dX11_took_19 (by decide) ?_
        exact kt_ri () hx hb hr hlk hS dX11_took_20 hP hD (by show ((¬ mho.toInt = 0 ∧ 0 ≤ p1.toInt ∧ p1.toInt < mtk.toInt) → ∃ q : Nat, q < P_ ∧ (-1 : Int32) = nI q ∧ ¬ ft q = 0 ∧ (kt_ct kt_nz ft q : Int) = p1.toInt) ∧ (¬ (¬ mho.toInt = 0 ∧ 0 ≤ p1.toInt ∧ p1.toInt < mtk.toInt) → (-1 : Int32) = -1); first
             | exact ⟨fun h => by exfalso; omega, fun _ => rfl⟩
             | exact ⟨fun _ => ⟨k, by omega, rfl, by rw [← e38]; exact c_39, by omega⟩, fun h => absurd (by omega) h⟩
             | (exfalso; have hkP : k = P_ := (by omega); rw [hkP] at hlf; omega))

set_option maxHeartbeats 4000000 in
set_option maxRecDepth 100000 in
theorem c_X11_pieceX (l : Launch) (D : va_G) (cI cZ cB : ClassId) (sz : Nat) (mx : Nat) (ms : Nat) (mk : Nat) (ma : Nat) (mo : Nat) (mg : Nat) (mm : Nat) (mt : Nat) (mn : Nat) (me : Nat) (mq : Nat) (mwo : Nat) (md : Nat) (mf : Nat) (mr : Nat) (ml : Int32) (mw : Int32) (mgl : Int32) (mhd : Int32) (mre : Int32) (mag : Int32) (mkt : Int32) (mho : Int32) (mpc : Int32) (msd : Int32) (mki : Int32) (mdn : Int32) (mun : Int32) (mtk : Int32) (msv : Int32) (P_ : Nat) (fa : Nat → Int32) (fo : Nat → Int32) (fr : Nat → Int32) (fk : Nat → Int32) (ft : Nat → Int32) (gs_ : Nat → Int32) (mv : Nat → Int32) (p1 : Int32) (p2 : Int32) (hml_ : 2 ≤ ml.toInt ∧ ml.toInt ≤ 9) (hmw : 2 ≤ mw.toInt ∧ mw.toInt ≤ 9) (hpi : ¬ mho.toInt = 0 → kt_PI ml mw mpc msd mki mdn mun mkt mhd fr fk fa fo mv gs_ P_) (hho : 0 ≤ mho.toInt ∧ mho.toInt ≤ 4) : kt_Mi l yX11_piece wsX11_piece { frames := 3, cells := 0, slots := 0, locals := 75 } D (kt_ty cI cZ cB) [.ref mx, .int p1, .int p2] sz [(mx, .inr (11, [.int ml, .int mw, .ref ms, .int mgl, .int mhd, .int mre, .int mag, .int mkt, .int mho, .int mpc, .int msd, .int mki, .ref mk, .ref ma, .ref mo, .ref mg, .ref mm, .ref mt, .int mdn, .int mun, .ref mn, .int mtk, .ref me, .ref mq, .int msv, .ref mwo, .ref md, .ref mf, .ref mr])), (ma, .inl (cI, 40, .inl fa)), (mo, .inl (cI, 81, .inl fo)), (mg, .inl (cI, 81, .inl fr)), (mk, .inl (cI, 40, .inl fk))] (fun (r : Int32) (u : Unit) => ((¬ mho.toInt = 0 ∧ 0 ≤ p1.toInt ∧ p1.toInt < (P_ : Int)) → kt_PC p2.toInt (fk p1.toNatClampNeg).toInt (fa p1.toNatClampNeg).toInt (if mho.toInt = 1 ∧ kt_side (fk p1.toNatClampNeg) = msd.toInt then (if fa p1.toNatClampNeg = -1 then 0 else (kt_ms fo fr (fk p1.toNatClampNeg) mre.toInt (fa p1.toNatClampNeg).toInt mw.toInt ml.toInt 4 : Int)) else 0) (@ite Int (kt_tks mkt (fk p1.toNatClampNeg)) (Classical.propDecidable _) 1 0) r.toInt) ∧ (¬ (¬ mho.toInt = 0 ∧ 0 ≤ p1.toInt ∧ p1.toInt < (P_ : Int)) → r.toInt = -1)) (fun (u : Unit) => [(mx, .inr (11, [.int ml, .int mw, .ref ms, .int mgl, .int mhd, .int mre, .int mag, .int mkt, .int mho, .int mpc, .int msd, .int mki, .ref mk, .ref ma, .ref mo, .ref mg, .ref mm, .ref mt, .int mdn, .int mun, .ref mn, .int mtk, .ref me, .ref mq, .int msv, .ref mwo, .ref md, .ref mf, .ref mr])), (ma, .inl (cI, 40, .inl fa)), (mo, .inl (cI, 81, .inl fo)), (mg, .inl (cI, 81, .inl fr)), (mk, .inl (cI, 40, .inl fk))]) 0 0 := by
  refine kt_Mi.of (cc := cX11_piece) (maxL := 3) (ret := some .int) (by decide) rfl (Nat.le_of_ble_eq_true rfl) ?_
  intro p e s m below meth c A ls H hAt hP hD hS hl
  obtain ⟨hx, hb, hr, hml, hown, hts, hN, hK, hlk, hnm, hA⟩ := hAt
  have hl : lv_has ls 3 [(0, .ref mx), (1, .int p1), (2, .int p2)] := hl
  have hown : s.vm.findClass RX11 = some m.cls := hown
  refine lv_aload_n hx hb dX11_piece_0 rfl (lv_at hl 0 rfl) ?_
  refine va_get (D := D) (ci := 11) (C := RX11) (T := TX11) (N := 29) hx hb hts iw_X11_piece_X11 hown hK hP 0 rfl rfl 8 (by decide) (hts (.fieldLink RX11 73 "KingTableModel" "how" "I") (kt_wp_X11_piece__X11_piece_r1 kt_wm0)) (fun _ h9 => h9) rfl dX11_piece_1 ?_
  refine lv_if_eq (tgt := 21) hx hb dX11_piece_4 (by decide) (fun c_4 => ?_) (fun c_4 => ?_)
  · have d_4 := c_4
    simp only [kt_lt, kt_le, kt_eq, kt_c0, kt_c1, kt_c2, kt_c3, kt_c4, kt_c8, kt_c9, kt_cm1, kt_c81, kt_c40, kt_c7, kt_c5, kt_c6, kt_c512, kt_c10, kt_c10000] at d_4
    refine lv_iconst (v := (-1)) hx hb dX11_piece_21 (by decide) ?_
    exact kt_ri () hx hb hr hlk hS dX11_piece_22 hP hD (by show ((¬ mho.toInt = 0 ∧ 0 ≤ p1.toInt ∧ p1.toInt < (P_ : Int)) → kt_PC p2.toInt (fk p1.toNatClampNeg).toInt (fa p1.toNatClampNeg).toInt (if mho.toInt = 1 ∧ kt_side (fk p1.toNatClampNeg) = msd.toInt then (if fa p1.toNatClampNeg = -1 then 0 else (kt_ms fo fr (fk p1.toNatClampNeg) mre.toInt (fa p1.toNatClampNeg).toInt mw.toInt ml.toInt 4 : Int)) else 0) (@ite Int (kt_tks mkt (fk p1.toNatClampNeg)) (Classical.propDecidable _) 1 0) (-1 : Int32).toInt) ∧ (¬ (¬ mho.toInt = 0 ∧ 0 ≤ p1.toInt ∧ p1.toInt < (P_ : Int)) → (-1 : Int32).toInt = -1); first
        | exact ⟨fun h => by exfalso; omega, fun _ => by decide⟩
        | exact ⟨fun h => absurd (by rw [kt_c0]; omega) (hw_15.f c_18), fun _ => by decide⟩
        | ((have ejI := congrArg Int32.toInt ej); (simp only [kt_c0, kt_c1, kt_c2, kt_c3, kt_c4, kt_c8, kt_c9, kt_cm1, kt_c81, kt_c40, kt_c7, kt_c5, kt_c6, kt_c512, kt_c10, kt_c10000] at ejI); exact ⟨fun _ => (by refine ⟨fun h => ?_, fun h => ?_, fun h => ?_, fun h => ?_, fun h => ?_⟩ <;> first | (exfalso; omega) | exact h61 | exact h68 | exact h99 | (rw [if_pos (hw_102.t c_105)]; decide) | (rw [if_neg (hw_102.f c_105)]; decide)), fun h => absurd ⟨by omega, hq1P⟩ h⟩)
        | exact ⟨fun _ => (by refine ⟨fun h => ?_, fun h => ?_, fun h => ?_, fun h => ?_, fun h => ?_⟩ <;> first | (exfalso; omega) | decide), fun h => absurd ⟨by omega, hq1P⟩ h⟩)
  · have d_4 := c_4
    simp only [kt_lt, kt_le, kt_eq, kt_c0, kt_c1, kt_c2, kt_c3, kt_c4, kt_c8, kt_c9, kt_cm1, kt_c81, kt_c40, kt_c7, kt_c5, kt_c6, kt_c512, kt_c10, kt_c10000] at d_4
    have hpl := hpi (by omega)
    obtain ⟨⟨hpc, hki, hsd, hdn0, hun0⟩, ⟨hfa, hco, hcc⟩, hinj, hrows, hcut, hlgl⟩ := hpl
    refine lv_iload_n hx hb dX11_piece_7 rfl (lv_at hl 1 rfl) ?_
    refine lv_iconst (v := 0) hx hb dX11_piece_8 (by decide) ?_
    refine lv_aload_n hx hb dX11_piece_9 rfl (lv_at hl 0 rfl) ?_
    refine va_get (D := D) (ci := 11) (C := RX11) (T := TX11) (N := 29) hx hb hts iw_X11_piece_X11 hown hK hP 0 rfl rfl 9 (by decide) (hts (.fieldLink RX11 103 "KingTableModel" "pieces" "I") (kt_wp_X11_piece__X11_piece_r1 kt_wm1)) (fun _ h9 => h9) rfl dX11_piece_10 ?_
    refine lv_iconst (v := 1) hx hb dX11_piece_13 (by decide) ?_
    refine lv_isub hx hb dX11_piece_14 ?_
    refine lv_topi (fun t_14 et_14 => ?_)
    first | have hk_14 := kt_subx et_14 (by first | omega | (simp only [kt_c0, kt_c1, kt_c2, kt_c3, kt_c4, kt_c8, kt_c9, kt_cm1, kt_c81, kt_c40, kt_c7, kt_c5, kt_c6, kt_c512, kt_c10, kt_c10000]; omega)) (by first | omega | (simp only [kt_c0, kt_c1, kt_c2, kt_c3, kt_c4, kt_c8, kt_c9, kt_cm1, kt_c81, kt_c40, kt_c7, kt_c5, kt_c6, kt_c512, kt_c10, kt_c10000]; omega)) | obtain ⟨k_14, hk_14, hm_14, hM_14⟩ := kt_subk et_14
    try simp only [kt_c0, kt_c1, kt_c2, kt_c3, kt_c4, kt_c8, kt_c9, kt_cm1, kt_c81, kt_c40, kt_c7, kt_c5, kt_c6, kt_c512, kt_c10, kt_c10000] at hk_14
    refine kt_pi (wc := []) [] hP hD hS hA rfl (by decide) (fun hPc hDc => va_runS (As := [.int p1, .int 0, .int t_14]) (rest := []) ⟨hx, hb, hml, hown, hts⟩ (c_X11_isIn l D cI cZ cB H.size p1 0 t_14 ) (va_cwS 3 hts gX11_piece_X11_isIn rfl rfl rfl (by decide +kernel) ⟨Nat.le_of_ble_eq_true rfl, Nat.le_of_ble_eq_true rfl⟩) (kt_preS hN hK hPc hDc) rfl rfl hl.1 rfl (lv_room (Nat.le_of_ble_eq_true rfl)) dX11_piece_15 ⟨Nat.le_of_ble_eq_true rfl, Nat.le_of_ble_eq_true rfl⟩) (fun r_15 _ H locs hw_15 hP hS => ?_)
    
    refine lv_if_ne (tgt := 23) hx hb dX11_piece_18 (by decide) (fun c_18 => ?_) (fun c_18 => ?_)
    · have d_18 := c_18
      simp only [kt_lt, kt_le, kt_eq, kt_c0, kt_c1, kt_c2, kt_c3, kt_c4, kt_c8, kt_c9, kt_cm1, kt_c81, kt_c40, kt_c7, kt_c5, kt_c6, kt_c512, kt_c10, kt_c10000] at d_18
      have hq1 := hw_15.t c_18
      rw [kt_c0] at hq1
      have hq1P : 0 ≤ p1.toInt ∧ p1.toInt < (P_ : Int) := by omega
      refine lv_iload_n hx hb dX11_piece_23 rfl (lv_at hl 2 rfl) ?_
      rcases kt_sw p2 4 with hsw | ⟨hsw, hs2⟩
      · refine lv_tableOut (tgt := 114) hx hb dX11_piece_24 (by omega) (by decide) ?_
        refine lv_iconst (v := (-1)) hx hb dX11_piece_114 (by decide) ?_
        exact kt_ri () hx hb hr hlk hS dX11_piece_115 hP hD (by show ((¬ mho.toInt = 0 ∧ 0 ≤ p1.toInt ∧ p1.toInt < (P_ : Int)) → kt_PC p2.toInt (fk p1.toNatClampNeg).toInt (fa p1.toNatClampNeg).toInt (if mho.toInt = 1 ∧ kt_side (fk p1.toNatClampNeg) = msd.toInt then (if fa p1.toNatClampNeg = -1 then 0 else (kt_ms fo fr (fk p1.toNatClampNeg) mre.toInt (fa p1.toNatClampNeg).toInt mw.toInt ml.toInt 4 : Int)) else 0) (@ite Int (kt_tks mkt (fk p1.toNatClampNeg)) (Classical.propDecidable _) 1 0) (-1 : Int32).toInt) ∧ (¬ (¬ mho.toInt = 0 ∧ 0 ≤ p1.toInt ∧ p1.toInt < (P_ : Int)) → (-1 : Int32).toInt = -1); first
            | exact ⟨fun h => by exfalso; omega, fun _ => by decide⟩
            | exact ⟨fun h => absurd (by rw [kt_c0]; omega) (hw_15.f c_18), fun _ => by decide⟩
            | ((have ejI := congrArg Int32.toInt ej); (simp only [kt_c0, kt_c1, kt_c2, kt_c3, kt_c4, kt_c8, kt_c9, kt_cm1, kt_c81, kt_c40, kt_c7, kt_c5, kt_c6, kt_c512, kt_c10, kt_c10000] at ejI); exact ⟨fun _ => (by refine ⟨fun h => ?_, fun h => ?_, fun h => ?_, fun h => ?_, fun h => ?_⟩ <;> first | (exfalso; omega) | exact h61 | exact h68 | exact h99 | (rw [if_pos (hw_102.t c_105)]; decide) | (rw [if_neg (hw_102.f c_105)]; decide)), fun h => absurd ⟨by omega, hq1P⟩ h⟩)
            | exact ⟨fun _ => (by refine ⟨fun h => ?_, fun h => ?_, fun h => ?_, fun h => ?_, fun h => ?_⟩ <;> first | (exfalso; omega) | decide), fun h => absurd ⟨by omega, hq1P⟩ h⟩)
      · obtain ⟨j, hj, ej⟩ : ∃ j : Nat, j < 4 ∧ p2 = nI j := ⟨p2.toInt.toNat, by omega, kt_nIof (by omega)⟩
        rcases (show j = 0 ∨ j = 1 ∨ j = 2 ∨ j = 3 by omega) with rfl | rfl | rfl | rfl
        · have ej : p2 = 0 := ej
          refine lv_tableIn (tgt := 56) (off := 32) hx hb dX11_piece_24 (by rw [ej]; decide) (by rw [ej]; decide) (by rw [ej]; rfl) (by decide) ?_
          refine lv_aload_n hx hb dX11_piece_56 rfl (lv_at hl 0 rfl) ?_
          refine va_get (D := D) (ci := 11) (C := RX11) (T := TX11) (N := 29) hx hb hts iw_X11_piece_X11 hown hK hP 0 rfl rfl 12 (by decide) (hts (.fieldLink RX11 27 "KingTableModel" "kind" "[I") (kt_wp_X11_piece__X11_piece_r1 kt_wm2)) (fun _ h9 => h9) rfl dX11_piece_57 ?_
          refine lv_iload_n hx hb dX11_piece_60 rfl (lv_at hl 1 rfl) ?_
          have hi_1 : vp_in p1 40 := by exact kt_in (by omega) (by omega)
          refine va_iald hx hb hK hP 4 0 rfl rfl hi_1 dX11_piece_61 ?_
          refine lv_topi (fun a_61 ea_61 => ?_)
          have h61 := congrArg Int32.toInt ea_61
          exact kt_ri () hx hb hr hlk hS dX11_piece_62 hP hD (by show ((¬ mho.toInt = 0 ∧ 0 ≤ p1.toInt ∧ p1.toInt < (P_ : Int)) → kt_PC p2.toInt (fk p1.toNatClampNeg).toInt (fa p1.toNatClampNeg).toInt (if mho.toInt = 1 ∧ kt_side (fk p1.toNatClampNeg) = msd.toInt then (if fa p1.toNatClampNeg = -1 then 0 else (kt_ms fo fr (fk p1.toNatClampNeg) mre.toInt (fa p1.toNatClampNeg).toInt mw.toInt ml.toInt 4 : Int)) else 0) (@ite Int (kt_tks mkt (fk p1.toNatClampNeg)) (Classical.propDecidable _) 1 0) a_61.toInt) ∧ (¬ (¬ mho.toInt = 0 ∧ 0 ≤ p1.toInt ∧ p1.toInt < (P_ : Int)) → a_61.toInt = -1); first
              | exact ⟨fun h => by exfalso; omega, fun _ => by decide⟩
              | exact ⟨fun h => absurd (by rw [kt_c0]; omega) (hw_15.f c_18), fun _ => by decide⟩
              | ((have ejI := congrArg Int32.toInt ej); (simp only [kt_c0, kt_c1, kt_c2, kt_c3, kt_c4, kt_c8, kt_c9, kt_cm1, kt_c81, kt_c40, kt_c7, kt_c5, kt_c6, kt_c512, kt_c10, kt_c10000] at ejI); exact ⟨fun _ => (by refine ⟨fun h => ?_, fun h => ?_, fun h => ?_, fun h => ?_, fun h => ?_⟩ <;> first | (exfalso; omega) | exact h61 | exact h68 | exact h99 | (rw [if_pos (hw_102.t c_105)]; decide) | (rw [if_neg (hw_102.f c_105)]; decide)), fun h => absurd ⟨by omega, hq1P⟩ h⟩)
              | exact ⟨fun _ => (by refine ⟨fun h => ?_, fun h => ?_, fun h => ?_, fun h => ?_, fun h => ?_⟩ <;> first | (exfalso; omega) | decide), fun h => absurd ⟨by omega, hq1P⟩ h⟩)
        · have ej : p2 = 1 := ej
          refine lv_tableIn (tgt := 63) (off := 39) hx hb dX11_piece_24 (by rw [ej]; decide) (by rw [ej]; decide) (by rw [ej]; rfl) (by decide) ?_
          refine lv_aload_n hx hb dX11_piece_63 rfl (lv_at hl 0 rfl) ?_
          refine va_get (D := D) (ci := 11) (C := RX11) (T := TX11) (N := 29) hx hb hts iw_X11_piece_X11 hown hK hP 0 rfl rfl 13 (by decide) (hts (.fieldLink RX11 30 "KingTableModel" "at" "[I") (kt_wp_X11_piece__X11_piece_r1 kt_wm3)) (fun _ h9 => h9) rfl dX11_piece_64 ?_
          refine lv_iload_n hx hb dX11_piece_67 rfl (lv_at hl 1 rfl) ?_
          have hi_2 : vp_in p1 40 := by exact kt_in (by omega) (by omega)
          refine va_iald hx hb hK hP 1 0 rfl rfl hi_2 dX11_piece_68 ?_
          refine lv_topi (fun a_68 ea_68 => ?_)
          have h68 := congrArg Int32.toInt ea_68
          exact kt_ri () hx hb hr hlk hS dX11_piece_69 hP hD (by show ((¬ mho.toInt = 0 ∧ 0 ≤ p1.toInt ∧ p1.toInt < (P_ : Int)) → kt_PC p2.toInt (fk p1.toNatClampNeg).toInt (fa p1.toNatClampNeg).toInt (if mho.toInt = 1 ∧ kt_side (fk p1.toNatClampNeg) = msd.toInt then (if fa p1.toNatClampNeg = -1 then 0 else (kt_ms fo fr (fk p1.toNatClampNeg) mre.toInt (fa p1.toNatClampNeg).toInt mw.toInt ml.toInt 4 : Int)) else 0) (@ite Int (kt_tks mkt (fk p1.toNatClampNeg)) (Classical.propDecidable _) 1 0) a_68.toInt) ∧ (¬ (¬ mho.toInt = 0 ∧ 0 ≤ p1.toInt ∧ p1.toInt < (P_ : Int)) → a_68.toInt = -1); first
              | exact ⟨fun h => by exfalso; omega, fun _ => by decide⟩
              | exact ⟨fun h => absurd (by rw [kt_c0]; omega) (hw_15.f c_18), fun _ => by decide⟩
              | ((have ejI := congrArg Int32.toInt ej); (simp only [kt_c0, kt_c1, kt_c2, kt_c3, kt_c4, kt_c8, kt_c9, kt_cm1, kt_c81, kt_c40, kt_c7, kt_c5, kt_c6, kt_c512, kt_c10, kt_c10000] at ejI); exact ⟨fun _ => (by refine ⟨fun h => ?_, fun h => ?_, fun h => ?_, fun h => ?_, fun h => ?_⟩ <;> first | (exfalso; omega) | exact h61 | exact h68 | exact h99 | (rw [if_pos (hw_102.t c_105)]; decide) | (rw [if_neg (hw_102.f c_105)]; decide)), fun h => absurd ⟨by omega, hq1P⟩ h⟩)
              | exact ⟨fun _ => (by refine ⟨fun h => ?_, fun h => ?_, fun h => ?_, fun h => ?_, fun h => ?_⟩ <;> first | (exfalso; omega) | decide), fun h => absurd ⟨by omega, hq1P⟩ h⟩)
        · have ej : p2 = 2 := ej
          refine lv_tableIn (tgt := 70) (off := 46) hx hb dX11_piece_24 (by rw [ej]; decide) (by rw [ej]; decide) (by rw [ej]; rfl) (by decide) ?_
          refine lv_aload_n hx hb dX11_piece_70 rfl (lv_at hl 0 rfl) ?_
          refine va_get (D := D) (ci := 11) (C := RX11) (T := TX11) (N := 29) hx hb hts iw_X11_piece_X11 hown hK hP 0 rfl rfl 8 (by decide) (hts (.fieldLink RX11 73 "KingTableModel" "how" "I") (kt_wp_X11_piece__X11_piece_r1 kt_wm0)) (fun _ h9 => h9) rfl dX11_piece_71 ?_
          refine lv_iconst (v := 1) hx hb dX11_piece_74 (by decide) ?_
          refine kt_join (σ := Int32) 99 3 (fun u => [(mx, .inr (11, [.int ml, .int mw, .ref ms, .int mgl, .int mhd, .int mre, .int mag, .int mkt, .int mho, .int mpc, .int msd, .int mki, .ref mk, .ref ma, .ref mo, .ref mg, .ref mm, .ref mt, .int mdn, .int mun, .ref mn, .int mtk, .ref me, .ref mq, .int msv, .ref mwo, .ref md, .ref mf, .ref mr])), (ma, .inl (cI, 40, .inl fa)), (mo, .inl (cI, 81, .inl fo)), (mg, .inl (cI, 81, .inl fr)), (mk, .inl (cI, 40, .inl fk))]) (fun u => [(0, .ref mx), (1, .int p1), (2, .int p2)]) (fun u => [.int u]) (fun u => u.toInt = (if mho.toInt = 1 ∧ kt_side (fk p1.toNatClampNeg) = msd.toInt then (if fa p1.toNatClampNeg = -1 then 0 else (kt_ms fo fr (fk p1.toNatClampNeg) mre.toInt (fa p1.toNatClampNeg).toInt mw.toInt ml.toInt 4 : Int)) else 0)) (D := D) (A := A) (H0 := s.heap) (fun u hI H locs hP hD hS ls hl => ?_) (fun j_99 => ?_)
          · obtain ⟨v, rfl⟩ : ∃ z, z = u := ⟨_, rfl⟩
            have hP : va_P D vwCl [(mx, .inr (11, [.int ml, .int mw, .ref ms, .int mgl, .int mhd, .int mre, .int mag, .int mkt, .int mho, .int mpc, .int msd, .int mki, .ref mk, .ref ma, .ref mo, .ref mg, .ref mm, .ref mt, .int mdn, .int mun, .ref mn, .int mtk, .ref me, .ref mq, .int msv, .ref mwo, .ref md, .ref mf, .ref mr])), (ma, .inl (cI, 40, .inl fa)), (mo, .inl (cI, 81, .inl fo)), (mg, .inl (cI, 81, .inl fr)), (mk, .inl (cI, 40, .inl fk))] H := hP
            have hD : va_D A [(mx, .inr (11, [.int ml, .int mw, .ref ms, .int mgl, .int mhd, .int mre, .int mag, .int mkt, .int mho, .int mpc, .int msd, .int mki, .ref mk, .ref ma, .ref mo, .ref mg, .ref mm, .ref mt, .int mdn, .int mun, .ref mn, .int mtk, .ref me, .ref mq, .int msv, .ref mwo, .ref md, .ref mf, .ref mr])), (ma, .inl (cI, 40, .inl fa)), (mo, .inl (cI, 81, .inl fo)), (mg, .inl (cI, 81, .inl fr)), (mk, .inl (cI, 40, .inl fk))] := hD
            have hl : lv_has ls 3 [(0, .ref mx), (1, .int p1), (2, .int p2)] := hl
            have hI : v.toInt = (if mho.toInt = 1 ∧ kt_side (fk p1.toNatClampNeg) = msd.toInt then (if fa p1.toNatClampNeg = -1 then 0 else (kt_ms fo fr (fk p1.toNatClampNeg) mre.toInt (fa p1.toNatClampNeg).toInt mw.toInt ml.toInt 4 : Int)) else 0) := hI
            have h99 := hI
            exact kt_ri () hx hb hr hlk hS dX11_piece_99 hP hD (by show ((¬ mho.toInt = 0 ∧ 0 ≤ p1.toInt ∧ p1.toInt < (P_ : Int)) → kt_PC p2.toInt (fk p1.toNatClampNeg).toInt (fa p1.toNatClampNeg).toInt (if mho.toInt = 1 ∧ kt_side (fk p1.toNatClampNeg) = msd.toInt then (if fa p1.toNatClampNeg = -1 then 0 else (kt_ms fo fr (fk p1.toNatClampNeg) mre.toInt (fa p1.toNatClampNeg).toInt mw.toInt ml.toInt 4 : Int)) else 0) (@ite Int (kt_tks mkt (fk p1.toNatClampNeg)) (Classical.propDecidable _) 1 0) v.toInt) ∧ (¬ (¬ mho.toInt = 0 ∧ 0 ≤ p1.toInt ∧ p1.toInt < (P_ : Int)) → v.toInt = -1); first
                | exact ⟨fun h => by exfalso; omega, fun _ => by decide⟩
                | exact ⟨fun h => absurd (by rw [kt_c0]; omega) (hw_15.f c_18), fun _ => by decide⟩
                | ((have ejI := congrArg Int32.toInt ej); (simp only [kt_c0, kt_c1, kt_c2, kt_c3, kt_c4, kt_c8, kt_c9, kt_cm1, kt_c81, kt_c40, kt_c7, kt_c5, kt_c6, kt_c512, kt_c10, kt_c10000] at ejI); exact ⟨fun _ => (by refine ⟨fun h => ?_, fun h => ?_, fun h => ?_, fun h => ?_, fun h => ?_⟩ <;> first | (exfalso; omega) | exact h61 | exact h68 | exact h99 | (rw [if_pos (hw_102.t c_105)]; decide) | (rw [if_neg (hw_102.f c_105)]; decide)), fun h => absurd ⟨by omega, hq1P⟩ h⟩)
                | exact ⟨fun _ => (by refine ⟨fun h => ?_, fun h => ?_, fun h => ?_, fun h => ?_, fun h => ?_⟩ <;> first | (exfalso; omega) | decide), fun h => absurd ⟨by omega, hq1P⟩ h⟩)
          refine lv_icmp_ne (tgt := 98) hx hb dX11_piece_75 (by decide) (fun c_75 => ?_) (fun c_75 => ?_)
          · have d_75 := c_75
            simp only [kt_lt, kt_le, kt_eq, kt_c0, kt_c1, kt_c2, kt_c3, kt_c4, kt_c8, kt_c9, kt_cm1, kt_c81, kt_c40, kt_c7, kt_c5, kt_c6, kt_c512, kt_c10, kt_c10000] at d_75
            refine lv_iconst (v := 0) hx hb dX11_piece_98 (by decide) ?_
            exact j_99 (0 : Int32) (by show (0 : Int32).toInt = (if mho.toInt = 1 ∧ kt_side (fk p1.toNatClampNeg) = msd.toInt then (if fa p1.toNatClampNeg = -1 then 0 else (kt_ms fo fr (fk p1.toNatClampNeg) mre.toInt (fa p1.toNatClampNeg).toInt mw.toInt ml.toInt 4 : Int)) else 0); first
                   | (rw [if_neg (fun h => by omega)]; decide)
                   | (rw [if_neg (fun h => c_87 ((kt_eq _ _).mpr (by rw [hw_80.1]; exact h.2)))]; decide)
                   | (rw [if_pos ⟨by omega, by have h5 := congrArg Int32.toInt c_87; rw [hw_80.1] at h5; exact h5⟩]; by_cases e : fa p1.toNatClampNeg = -1; (rw [if_pos e]; exact hw_92.1 e); (rw [if_neg e]; exact hw_92.2 e))) H _ hP hD hS ls (lv_sub hl [0, 1, 2] rfl)
          · have d_75 := c_75
            simp only [kt_lt, kt_le, kt_eq, kt_c0, kt_c1, kt_c2, kt_c3, kt_c4, kt_c8, kt_c9, kt_cm1, kt_c81, kt_c40, kt_c7, kt_c5, kt_c6, kt_c512, kt_c10, kt_c10000] at d_75
            refine lv_aload_n hx hb dX11_piece_78 rfl (lv_at hl 0 rfl) ?_
            refine lv_iload_n hx hb dX11_piece_79 rfl (lv_at hl 1 rfl) ?_
            refine kt_pi (wc := [(mx, .inr (11, [.int ml, .int mw, .ref ms, .int mgl, .int mhd, .int mre, .int mag, .int mkt, .int mho, .int mpc, .int msd, .int mki, .ref mk, .ref ma, .ref mo, .ref mg, .ref mm, .ref mt, .int mdn, .int mun, .ref mn, .int mtk, .ref me, .ref mq, .int msv, .ref mwo, .ref md, .ref mf, .ref mr])), (mk, .inl (cI, 40, .inl fk))]) [0, 4] hP hD hS hA rfl (by decide) (fun hPc hDc => va_runV (As := [.int p1]) (rest := []) ⟨hx, hb, hml, hown, hts⟩ (c_X11_sideOfE l D cI cZ cB H.size mx ms mk ma mo mg mm mt mn me mq mwo md mf mr ml mw mgl mhd mre mag mkt mho mpc msd mki mdn mun mtk msv fk p1 (by omega)) (cwV 1 hts gX11_piece_X11_sideOf rfl rfl rfl (by decide +kernel) ⟨Nat.le_of_ble_eq_true rfl, Nat.le_of_ble_eq_true rfl⟩) (kt_preV hN hK hPc hDc 0 (ci := 11) (q := (RX11, TX11, 29)) rfl rfl) rfl rfl hl.1 rfl (lv_room (Nat.le_of_ble_eq_true rfl)) dX11_piece_80 ⟨Nat.le_of_ble_eq_true rfl, Nat.le_of_ble_eq_true rfl⟩) (fun r_80 _ H locs hw_80 hP hS => ?_)
            
            refine lv_aload_n hx hb dX11_piece_83 rfl (lv_at hl 0 rfl) ?_
            refine va_get (D := D) (ci := 11) (C := RX11) (T := TX11) (N := 29) hx hb hts iw_X11_piece_X11 hown hK hP 0 rfl rfl 10 (by decide) (hts (.fieldLink RX11 126 "KingTableModel" "side" "I") (kt_wp_X11_piece__X11_piece_r1 kt_wm4)) (fun _ h9 => h9) rfl dX11_piece_84 ?_
            refine lv_icmp_ne (tgt := 98) hx hb dX11_piece_87 (by decide) (fun c_87 => ?_) (fun c_87 => ?_)
            · have d_87 := c_87
              simp only [kt_lt, kt_le, kt_eq, kt_c0, kt_c1, kt_c2, kt_c3, kt_c4, kt_c8, kt_c9, kt_cm1, kt_c81, kt_c40, kt_c7, kt_c5, kt_c6, kt_c512, kt_c10, kt_c10000] at d_87
              refine lv_iconst (v := 0) hx hb dX11_piece_98 (by decide) ?_
              exact j_99 (0 : Int32) (by show (0 : Int32).toInt = (if mho.toInt = 1 ∧ kt_side (fk p1.toNatClampNeg) = msd.toInt then (if fa p1.toNatClampNeg = -1 then 0 else (kt_ms fo fr (fk p1.toNatClampNeg) mre.toInt (fa p1.toNatClampNeg).toInt mw.toInt ml.toInt 4 : Int)) else 0); first
                     | (rw [if_neg (fun h => by omega)]; decide)
                     | (rw [if_neg (fun h => c_87 ((kt_eq _ _).mpr (by rw [hw_80.1]; exact h.2)))]; decide)
                     | (rw [if_pos ⟨by omega, by have h5 := congrArg Int32.toInt c_87; rw [hw_80.1] at h5; exact h5⟩]; by_cases e : fa p1.toNatClampNeg = -1; (rw [if_pos e]; exact hw_92.1 e); (rw [if_neg e]; exact hw_92.2 e))) H _ hP hD hS ls (lv_sub hl [0, 1, 2] rfl)
            · have d_87 := c_87
              simp only [kt_lt, kt_le, kt_eq, kt_c0, kt_c1, kt_c2, kt_c3, kt_c4, kt_c8, kt_c9, kt_cm1, kt_c81, kt_c40, kt_c7, kt_c5, kt_c6, kt_c512, kt_c10, kt_c10000] at d_87
              refine lv_aload_n hx hb dX11_piece_90 rfl (lv_at hl 0 rfl) ?_
              refine lv_iload_n hx hb dX11_piece_91 rfl (lv_at hl 1 rfl) ?_
              refine kt_pi (wc := [(mx, .inr (11, [.int ml, .int mw, .ref ms, .int mgl, .int mhd, .int mre, .int mag, .int mkt, .int mho, .int mpc, .int msd, .int mki, .ref mk, .ref ma, .ref mo, .ref mg, .ref mm, .ref mt, .int mdn, .int mun, .ref mn, .int mtk, .ref me, .ref mq, .int msv, .ref mwo, .ref md, .ref mf, .ref mr])), (ma, .inl (cI, 40, .inl fa)), (mo, .inl (cI, 81, .inl fo)), (mg, .inl (cI, 81, .inl fr)), (mk, .inl (cI, 40, .inl fk))]) [0, 1, 2, 3, 4] hP hD hS hA rfl (by decide) (fun hPc hDc => va_runV (As := [.int p1]) (rest := []) ⟨hx, hb, hml, hown, hts⟩ (c_X11_movesOfX l D cI cZ cB H.size mx ms mk ma mo mg mm mt mn me mq mwo md mf mr ml mw mgl mhd mre mag mkt mho mpc msd mki mdn mun mtk msv P_ fa fo fr fk p1 hml_ hmw hpc hfa (hco.r (by omega)) hq1P) (cwV 1 hts gX11_piece_X11_movesOf rfl rfl rfl (by decide +kernel) ⟨Nat.le_of_ble_eq_true rfl, Nat.le_of_ble_eq_true rfl⟩) (kt_preV hN hK hPc hDc 0 (ci := 11) (q := (RX11, TX11, 29)) rfl rfl) rfl rfl hl.1 rfl (lv_room (Nat.le_of_ble_eq_true rfl)) dX11_piece_92 ⟨Nat.le_of_ble_eq_true rfl, Nat.le_of_ble_eq_true rfl⟩) (fun r_92 _ H locs hw_92 hP hS => ?_)
              
              refine lv_goto (tgt := 99) hx hb dX11_piece_95 (by decide) ?_
              exact j_99 r_92 (by show r_92.toInt = (if mho.toInt = 1 ∧ kt_side (fk p1.toNatClampNeg) = msd.toInt then (if fa p1.toNatClampNeg = -1 then 0 else (kt_ms fo fr (fk p1.toNatClampNeg) mre.toInt (fa p1.toNatClampNeg).toInt mw.toInt ml.toInt 4 : Int)) else 0); first
                     | (rw [if_neg (fun h => by omega)]; decide)
                     | (rw [if_neg (fun h => c_87 ((kt_eq _ _).mpr (by rw [hw_80.1]; exact h.2)))]; decide)
                     | (rw [if_pos ⟨by omega, by have h5 := congrArg Int32.toInt c_87; rw [hw_80.1] at h5; exact h5⟩]; by_cases e : fa p1.toNatClampNeg = -1; (rw [if_pos e]; exact hw_92.1 e); (rw [if_neg e]; exact hw_92.2 e))) H _ hP hD hS ls (lv_sub hl [0, 1, 2] rfl)
        · have ej : p2 = 3 := ej
          refine lv_tableIn (tgt := 100) (off := 76) hx hb dX11_piece_24 (by rw [ej]; decide) (by rw [ej]; decide) (by rw [ej]; rfl) (by decide) ?_
          refine lv_aload_n hx hb dX11_piece_100 rfl (lv_at hl 0 rfl) ?_
          refine lv_iload_n hx hb dX11_piece_101 rfl (lv_at hl 1 rfl) ?_
          refine kt_pi (wc := [(mx, .inr (11, [.int ml, .int mw, .ref ms, .int mgl, .int mhd, .int mre, .int mag, .int mkt, .int mho, .int mpc, .int msd, .int mki, .ref mk, .ref ma, .ref mo, .ref mg, .ref mm, .ref mt, .int mdn, .int mun, .ref mn, .int mtk, .ref me, .ref mq, .int msv, .ref mwo, .ref md, .ref mf, .ref mr])), (mk, .inl (cI, 40, .inl fk))]) [0, 4] hP hD hS hA rfl (by decide) (fun hPc hDc => va_runV (As := [.int p1]) (rest := []) ⟨hx, hb, hml, hown, hts⟩ (c_X11_takesE l D cI cZ cB H.size mx ms mk ma mo mg mm mt mn me mq mwo md mf mr ml mw mgl mhd mre mag mkt mho mpc msd mki mdn mun mtk msv fk p1 (by omega)) (cwV 1 hts gX11_piece_X11_takes rfl rfl rfl (by decide +kernel) ⟨Nat.le_of_ble_eq_true rfl, Nat.le_of_ble_eq_true rfl⟩) (kt_preV hN hK hPc hDc 0 (ci := 11) (q := (RX11, TX11, 29)) rfl rfl) rfl rfl hl.1 rfl (lv_room (Nat.le_of_ble_eq_true rfl)) dX11_piece_102 ⟨Nat.le_of_ble_eq_true rfl, Nat.le_of_ble_eq_true rfl⟩) (fun r_102 _ H locs hw_102 hP hS => ?_)
          
          refine lv_if_eq (tgt := 112) hx hb dX11_piece_105 (by decide) (fun c_105 => ?_) (fun c_105 => ?_)
          · have d_105 := c_105
            simp only [kt_lt, kt_le, kt_eq, kt_c0, kt_c1, kt_c2, kt_c3, kt_c4, kt_c8, kt_c9, kt_cm1, kt_c81, kt_c40, kt_c7, kt_c5, kt_c6, kt_c512, kt_c10, kt_c10000] at d_105
            refine lv_iconst (v := 0) hx hb dX11_piece_112 (by decide) ?_
            exact kt_ri () hx hb hr hlk hS dX11_piece_113 hP hD (by show ((¬ mho.toInt = 0 ∧ 0 ≤ p1.toInt ∧ p1.toInt < (P_ : Int)) → kt_PC p2.toInt (fk p1.toNatClampNeg).toInt (fa p1.toNatClampNeg).toInt (if mho.toInt = 1 ∧ kt_side (fk p1.toNatClampNeg) = msd.toInt then (if fa p1.toNatClampNeg = -1 then 0 else (kt_ms fo fr (fk p1.toNatClampNeg) mre.toInt (fa p1.toNatClampNeg).toInt mw.toInt ml.toInt 4 : Int)) else 0) (@ite Int (kt_tks mkt (fk p1.toNatClampNeg)) (Classical.propDecidable _) 1 0) (0 : Int32).toInt) ∧ (¬ (¬ mho.toInt = 0 ∧ 0 ≤ p1.toInt ∧ p1.toInt < (P_ : Int)) → (0 : Int32).toInt = -1); first
                | exact ⟨fun h => by exfalso; omega, fun _ => by decide⟩
                | exact ⟨fun h => absurd (by rw [kt_c0]; omega) (hw_15.f c_18), fun _ => by decide⟩
                | ((have ejI := congrArg Int32.toInt ej); (simp only [kt_c0, kt_c1, kt_c2, kt_c3, kt_c4, kt_c8, kt_c9, kt_cm1, kt_c81, kt_c40, kt_c7, kt_c5, kt_c6, kt_c512, kt_c10, kt_c10000] at ejI); exact ⟨fun _ => (by refine ⟨fun h => ?_, fun h => ?_, fun h => ?_, fun h => ?_, fun h => ?_⟩ <;> first | (exfalso; omega) | exact h61 | exact h68 | exact h99 | (rw [if_pos (hw_102.t c_105)]; decide) | (rw [if_neg (hw_102.f c_105)]; decide)), fun h => absurd ⟨by omega, hq1P⟩ h⟩)
                | exact ⟨fun _ => (by refine ⟨fun h => ?_, fun h => ?_, fun h => ?_, fun h => ?_, fun h => ?_⟩ <;> first | (exfalso; omega) | decide), fun h => absurd ⟨by omega, hq1P⟩ h⟩)
          · have d_105 := c_105
            simp only [kt_lt, kt_le, kt_eq, kt_c0, kt_c1, kt_c2, kt_c3, kt_c4, kt_c8, kt_c9, kt_cm1, kt_c81, kt_c40, kt_c7, kt_c5, kt_c6, kt_c512, kt_c10, kt_c10000] at d_105
            refine lv_iconst (v := 1) hx hb dX11_piece_108 (by decide) ?_
            refine lv_goto (tgt := 113) hx hb dX11_piece_109 (by decide) ?_
            exact kt_ri () hx hb hr hlk hS dX11_piece_113 hP hD (by show ((¬ mho.toInt = 0 ∧ 0 ≤ p1.toInt ∧ p1.toInt < (P_ : Int)) → kt_PC p2.toInt (fk p1.toNatClampNeg).toInt (fa p1.toNatClampNeg).toInt (if mho.toInt = 1 ∧ kt_side (fk p1.toNatClampNeg) = msd.toInt then (if fa p1.toNatClampNeg = -1 then 0 else (kt_ms fo fr (fk p1.toNatClampNeg) mre.toInt (fa p1.toNatClampNeg).toInt mw.toInt ml.toInt 4 : Int)) else 0) (@ite Int (kt_tks mkt (fk p1.toNatClampNeg)) (Classical.propDecidable _) 1 0) (1 : Int32).toInt) ∧ (¬ (¬ mho.toInt = 0 ∧ 0 ≤ p1.toInt ∧ p1.toInt < (P_ : Int)) → (1 : Int32).toInt = -1); first
                | exact ⟨fun h => by exfalso; omega, fun _ => by decide⟩
                | exact ⟨fun h => absurd (by rw [kt_c0]; omega) (hw_15.f c_18), fun _ => by decide⟩
                | ((have ejI := congrArg Int32.toInt ej); (simp only [kt_c0, kt_c1, kt_c2, kt_c3, kt_c4, kt_c8, kt_c9, kt_cm1, kt_c81, kt_c40, kt_c7, kt_c5, kt_c6, kt_c512, kt_c10, kt_c10000] at ejI); exact ⟨fun _ => (by refine ⟨fun h => ?_, fun h => ?_, fun h => ?_, fun h => ?_, fun h => ?_⟩ <;> first | (exfalso; omega) | exact h61 | exact h68 | exact h99 | (rw [if_pos (hw_102.t c_105)]; decide) | (rw [if_neg (hw_102.f c_105)]; decide)), fun h => absurd ⟨by omega, hq1P⟩ h⟩)
                | exact ⟨fun _ => (by refine ⟨fun h => ?_, fun h => ?_, fun h => ?_, fun h => ?_, fun h => ?_⟩ <;> first | (exfalso; omega) | decide), fun h => absurd ⟨by omega, hq1P⟩ h⟩)
    · have d_18 := c_18
      simp only [kt_lt, kt_le, kt_eq, kt_c0, kt_c1, kt_c2, kt_c3, kt_c4, kt_c8, kt_c9, kt_cm1, kt_c81, kt_c40, kt_c7, kt_c5, kt_c6, kt_c512, kt_c10, kt_c10000] at d_18
      refine lv_iconst (v := (-1)) hx hb dX11_piece_21 (by decide) ?_
      exact kt_ri () hx hb hr hlk hS dX11_piece_22 hP hD (by show ((¬ mho.toInt = 0 ∧ 0 ≤ p1.toInt ∧ p1.toInt < (P_ : Int)) → kt_PC p2.toInt (fk p1.toNatClampNeg).toInt (fa p1.toNatClampNeg).toInt (if mho.toInt = 1 ∧ kt_side (fk p1.toNatClampNeg) = msd.toInt then (if fa p1.toNatClampNeg = -1 then 0 else (kt_ms fo fr (fk p1.toNatClampNeg) mre.toInt (fa p1.toNatClampNeg).toInt mw.toInt ml.toInt 4 : Int)) else 0) (@ite Int (kt_tks mkt (fk p1.toNatClampNeg)) (Classical.propDecidable _) 1 0) (-1 : Int32).toInt) ∧ (¬ (¬ mho.toInt = 0 ∧ 0 ≤ p1.toInt ∧ p1.toInt < (P_ : Int)) → (-1 : Int32).toInt = -1); first
          | exact ⟨fun h => by exfalso; omega, fun _ => by decide⟩
          | exact ⟨fun h => absurd (by rw [kt_c0]; omega) (hw_15.f c_18), fun _ => by decide⟩
          | ((have ejI := congrArg Int32.toInt ej); (simp only [kt_c0, kt_c1, kt_c2, kt_c3, kt_c4, kt_c8, kt_c9, kt_cm1, kt_c81, kt_c40, kt_c7, kt_c5, kt_c6, kt_c512, kt_c10, kt_c10000] at ejI); exact ⟨fun _ => (by refine ⟨fun h => ?_, fun h => ?_, fun h => ?_, fun h => ?_, fun h => ?_⟩ <;> first | (exfalso; omega) | exact h61 | exact h68 | exact h99 | (rw [if_pos (hw_102.t c_105)]; decide) | (rw [if_neg (hw_102.f c_105)]; decide)), fun h => absurd ⟨by omega, hq1P⟩ h⟩)
          | exact ⟨fun _ => (by refine ⟨fun h => ?_, fun h => ?_, fun h => ?_, fun h => ?_, fun h => ?_⟩ <;> first | (exfalso; omega) | decide), fun h => absurd ⟨by omega, hq1P⟩ h⟩)
