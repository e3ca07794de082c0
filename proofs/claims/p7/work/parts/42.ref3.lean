theorem kt_addx {t x y : Int32} (h : t = x + y) (h1 : -2147483648 ≤ x.toInt + y.toInt) (h2 : x.toInt + y.toInt < 2147483648) : t.toInt = x.toInt + y.toInt := by
  obtain ⟨k, hk, h3, h4⟩ := kt_addk h
  omega
theorem kt_subx {t x y : Int32} (h : t = x - y) (h1 : -2147483648 ≤ x.toInt - y.toInt) (h2 : x.toInt - y.toInt < 2147483648) : t.toInt = x.toInt - y.toInt := by
  obtain ⟨k, hk, h3, h4⟩ := kt_subk h
  omega
theorem kt_c41 : (41 : Int32).toInt = 41 := by decide
theorem kt_b8 {v : Int32} (h1 : -128 ≤ v.toInt) (h2 : v.toInt ≤ 127) : v.toInt8.toInt32 = v := by
  rw [kt_eq, Int8.toInt_toInt32, Int32.toInt_toInt8]
  show v.toInt.bmod 256 = v.toInt
  rw [Int.bmod_def]
  split <;> omega
theorem kt_b8n {v : Int32} (h1 : -128 ≤ v.toInt) (h2 : v.toInt ≤ 127) : vp_nar .byte v.toInt8.toInt32 = v := by
  rw [kt_b8 h1 h2, vp_nar_byte, kt_b8 h1 h2]
/-- a written stand: its pieces' fields lie on the board, its turn is a side -/
def kt_row (g : Nat → Int32) (n P : Nat) (S : Int) : Prop := (∀ p, p < P → -1 ≤ (g (41 * n + p)).toInt ∧ (g (41 * n + p)).toInt < S) ∧ 0 ≤ (g (41 * n + 40)).toInt ∧ (g (41 * n + 40)).toInt ≤ 1
/-- what stands on a field says that it is there -/
def kt_con (fo fa : Nat → Int32) (n : Nat) : Prop := ∀ f : Nat, f < 81 → ¬ fo f = -1 → ∃ q : Nat, q < n ∧ fo f = nI q ∧ fa q = nI f
theorem kt_con.r {fo fa : Nat → Int32} {n : Nat} (h : kt_con fo fa n) (hn : n ≤ 40) : kt_r fo 81 (-1) ((n : Int) - 1) := by
  intro j hj
  by_cases e : fo j = -1
  · rw [e, kt_cm1]; omega
  · obtain ⟨q, hq, e2, -⟩ := h j hj e
    rw [e2, kt_nI (by omega)]
    omega

set_option maxHeartbeats 4000000 in
set_option maxRecDepth 100000 in
theorem c_X11_row (l : Launch) (D : va_G) (cI cZ cB : ClassId) (sz : Nat) (mx : Nat) (ms : Nat) (mk : Nat) (ma : Nat) (mo : Nat) (mg : Nat) (mm : Nat) (mt : Nat) (mn : Nat) (me : Nat) (mq : Nat) (mwo : Nat) (md : Nat) (mf : Nat) (mr : Nat) (ml : Int32) (mw : Int32) (mgl : Int32) (mhd : Int32) (mre : Int32) (mag : Int32) (mkt : Int32) (mho : Int32) (mpc : Int32) (msd : Int32) (mki : Int32) (mdn : Int32) (mun : Int32) (mtk : Int32) (msv : Int32) (p1 : Int32) (hp1 : 0 ≤ p1.toInt ∧ p1.toInt ≤ 4000) : kt_Mi l yX11_row wsX11_row { frames := 0, cells := 0, slots := 0, locals := 0 } D (kt_ty cI cZ cB) [.ref mx, .int p1] sz [(mx, .inr (11, [.int ml, .int mw, .ref ms, .int mgl, .int mhd, .int mre, .int mag, .int mkt, .int mho, .int mpc, .int msd, .int mki, .ref mk, .ref ma, .ref mo, .ref mg, .ref mm, .ref mt, .int mdn, .int mun, .ref mn, .int mtk, .ref me, .ref mq, .int msv, .ref mwo, .ref md, .ref mf, .ref mr]))] (fun (r : Int32) (u : Unit) => r.toInt = 41 * p1.toInt) (fun (u : Unit) => [(mx, .inr (11, [.int ml, .int mw, .ref ms, .int mgl, .int mhd, .int mre, .int mag, .int mkt, .int mho, .int mpc, .int msd, .int mki, .ref mk, .ref ma, .ref mo, .ref mg, .ref mm, .ref mt, .int mdn, .int mun, .ref mn, .int mtk, .ref me, .ref mq, .int msv, .ref mwo, .ref md, .ref mf, .ref mr]))]) 0 0 := by
  refine kt_Mi.of (cc := cX11_row) (maxL := 2) (ret := some .int) (by decide) rfl (Nat.le_of_ble_eq_true rfl) ?_
  intro p e s m below meth c A ls H hAt hP hD hS hl
  obtain ⟨hx, hb, hr, hml, hown, hts, hN, hK, hlk, hnm, hA⟩ := hAt
  have hl : lv_has ls 2 [(0, .ref mx), (1, .int p1)] := hl
  have hown : s.vm.findClass RX11 = some m.cls := hown
  refine lv_bipush (v := 41) hx hb dX11_row_0 (by decide) ?_
  refine lv_iload_n hx hb dX11_row_2 rfl (lv_at hl 1 rfl) ?_
  refine lv_imul hx hb dX11_row_3 ?_
  refine lv_topi (fun t_3 et_3 => ?_)
  obtain ⟨k_3, hk_3, hm_3, hM_3⟩ := kt_mulk (C := 41) (et_3.trans (Int32.mul_comm _ _)) (by decide)
  try simp only [kt_c0, kt_c1, kt_c2, kt_c3, kt_c4, kt_c8, kt_c9, kt_cm1, kt_c81, kt_c40, kt_c7, kt_c5, kt_c6, kt_c512, kt_c10, kt_c10000] at hk_3
  exact kt_ri () hx hb hr hlk hS dX11_row_4 hP hD (by show t_3.toInt = 41 * p1.toInt; omega)

theorem iw_X11_isAlike_X11 : ∀ w ∈ wsX110, w ∈ wsX11_isAlike := fun _ h => kt_wp_X11_isAlike__X110 h
theorem iw_X11_lookAgain_X11 : ∀ w ∈ wsX110, w ∈ wsX11_lookAgain := fun _ h => kt_wp_X11_lookAgain__X110 h
theorem iw_X11_write_X11 : ∀ w ∈ wsX110, w ∈ wsX11_write := fun _ h => kt_wp_X11_write__X110 h