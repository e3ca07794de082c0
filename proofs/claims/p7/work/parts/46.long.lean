theorem kt_l2i {t : Int32} {x : Int64} (h : t = x.toInt32) (h1 : -2147483648 ≤ x.toInt) (h2 : x.toInt < 2147483648) : t.toInt = x.toInt := by
  obtain ⟨k, hk⟩ := kt_bm x.toInt
  have hr := kt_rng t
  have e : t.toInt = x.toInt + 4294967296 * k := by rw [h, Int64.toInt_toInt32]; exact hk
  omega
theorem kt_lrng (x : Int64) : -9223372036854775808 ≤ x.toInt ∧ x.toInt < 9223372036854775808 := ⟨Int64.le_toInt x, Int64.toInt_lt x⟩
theorem kt_bm64 (X : Int) : ∃ k : Int, X.bmod (2 ^ 64) = X + 18446744073709551616 * k := by
  have h : X.bmod (2 ^ 64) % ((2 ^ 64 : Nat) : Int) = X % ((2 ^ 64 : Nat) : Int) := Int.bmod_emod
  have e : ((2 ^ 64 : Nat) : Int) = 18446744073709551616 := by decide
  rw [e] at h
  exact ⟨(X.bmod (2 ^ 64) - X) / 18446744073709551616, by omega⟩
theorem kt_lmul {t x y : Int64} (h : t = x * y) (h1 : -9223372036854775808 ≤ x.toInt * y.toInt) (h2 : x.toInt * y.toInt < 9223372036854775808) : t.toInt = x.toInt * y.toInt := by
  obtain ⟨k, hk⟩ := kt_bm64 (x.toInt * y.toInt)
  have hr := kt_lrng t
  have e : t.toInt = x.toInt * y.toInt + 18446744073709551616 * k := by rw [h, Int64.toInt_mul]; exact hk
  omega
theorem kt_ldiv {t x y : Int64} (h : t = x / y) (hx : 0 ≤ x.toInt) (hy : 0 < y.toInt) : t.toInt = x.toInt / y.toInt := by
  rw [h, Int64.toInt_div_of_ne_right _ _ (by intro e; rw [e] at hy; exact absurd hy (by decide)), Int.tdiv_eq_ediv_of_nonneg hx]
theorem kt_lcmp {t : Int32} {x y : Int64} (h : t = lg_cmp x y) : (t.toInt = 1 ∧ y.toInt < x.toInt) ∨ (t.toInt = 0 ∧ x.toInt = y.toInt) ∨ (t.toInt = -1 ∧ x.toInt < y.toInt) := by
  rw [h]
  unfold lg_cmp
  by_cases h1 : x > y
  · rw [if_pos h1]; exact Or.inl ⟨by decide, Int64.lt_iff_toInt_lt.mp h1⟩
  · rw [if_neg h1]
    by_cases h2 : x = y
    · rw [if_pos h2]; exact Or.inr (Or.inl ⟨by decide, by rw [h2]⟩)
    · rw [if_neg h2]
      refine Or.inr (Or.inr ⟨by decide, ?_⟩)
      have h3 : ¬ y.toInt < x.toInt := fun h => h1 (Int64.lt_iff_toInt_lt.mpr h)
      have h4 : ¬ x.toInt = y.toInt := fun h => h2 (Int64.toInt_inj.mp h)
      omega
/-- how many places k pieces have, to the base B -/
def kt_pw (B : Int) : Nat → Int
  | 0 => 1
  | k + 1 => kt_pw B k * B
theorem kt_pw_1 {B : Int} (hB : 1 ≤ B) : ∀ k, 1 ≤ kt_pw B k
  | 0 => Int.le_refl 1
  | k + 1 => kt_mulp (kt_pw_1 hB k) hB
theorem kt_pw_s {B : Int} (hB : 1 ≤ B) (k : Nat) : ∀ n, kt_pw B k ≤ kt_pw B (k + n)
  | 0 => Int.le_refl _
  | n + 1 => by
    have h := kt_pw_s hB k n
    have h1 := kt_pw_1 hB (k + n)
    have h2 : kt_pw B (k + n) * 1 ≤ kt_pw B (k + n) * B := Int.mul_le_mul_of_nonneg_left hB (by omega)
    rw [Int.mul_one] at h2
    show kt_pw B k ≤ kt_pw B (k + n) * B
    omega
theorem kt_pw_m {B : Int} (hB : 1 ≤ B) {k n : Nat} (h : k ≤ n) : kt_pw B k ≤ kt_pw B n := by
  have e : n = k + (n - k) := by omega
  rw [e]
  exact kt_pw_s hB k (n - k)
theorem kt_dig {v p d B : Int} (h2 : v < p) (h3 : d < B) (hB : 1 ≤ B) : v * B + d < p * B := by
  have h : (v + 1) * B ≤ p * B := Int.mul_le_mul_of_nonneg_right (by omega) (by omega)
  rw [Int.add_mul, Int.one_mul] at h
  omega

theorem iw_X11_stands_X11 : ∀ w ∈ wsX110, w ∈ wsX11_stands := fun _ h => kt_wp_X11_stands__X110 h
set_option maxHeartbeats 4000000 in
set_option maxRecDepth 100000 in
theorem c_X11_stands (l : Launch) (D : va_G) (cI cZ cB : ClassId) (sz : Nat) (mx : Nat) (ms : Nat) (mk : Nat) (ma : Nat) (mo : Nat) (mg : Nat) (mm : Nat) (mt : Nat) (mn : Nat) (me : Nat) (mq : Nat) (mwo : Nat) (md : Nat) (mf : Nat) (mr : Nat) (ml : Int32) (mw : Int32) (mgl : Int32) (mhd : Int32) (mre : Int32) (mag : Int32) (mkt : Int32) (mho : Int32) (mpc : Int32) (msd : Int32) (mki : Int32) (mdn : Int32) (mun : Int32) (mtk : Int32) (msv : Int32) (P_ : Nat) (hml_ : 2 ≤ ml.toInt ∧ ml.toInt ≤ 9) (hmw : 2 ≤ mw.toInt ∧ mw.toInt ≤ 9) (hpc : (P_ : Int) = mpc.toInt ∧ P_ ≤ 40) : kt_Ml l yX11_stands wsX11_stands { frames := 1, cells := 0, slots := 0, locals := 20 } D (kt_ty cI cZ cB) [.ref mx] sz [(mx, .inr (11, [.int ml, .int mw, .ref ms, .int mgl, .int mhd, .int mre, .int mag, .int mkt, .int mho, .int mpc, .int msd, .int mki, .ref mk, .ref ma, .ref mo, .ref mg, .ref mm, .ref mt, .int mdn, .int mun, .ref mn, .int mtk, .ref me, .ref mq, .int msv, .ref mwo, .ref md, .ref mf, .ref mr]))] (fun (r : Int64) (u : Unit) => (2 ≤ r.toInt ∧ r.toInt ≤ 820000) ∧ (r.toInt ≤ 10000 → r.toInt = 2 * kt_pw (ml.toInt * mw.toInt + 1) P_) ∧ (10000 < r.toInt → 10000 < 2 * kt_pw (ml.toInt * mw.toInt + 1) P_)) (fun (u : Unit) => [(mx, .inr (11, [.int ml, .int mw, .ref ms, .int mgl, .int mhd, .int mre, .int mag, .int mkt, .int mho, .int mpc, .int msd, .int mki, .ref mk, .ref ma, .ref mo, .ref mg, .ref mm, .ref mt, .int mdn, .int mun, .ref mn, .int mtk, .ref me, .ref mq, .int msv, .ref mwo, .ref md, .ref mf, .ref mr]))]) 0 0 := by
  refine kt_Ml.of (cc := cX11_stands) (maxL := 4) (ret := some .long) (by decide) rfl (Nat.le_of_ble_eq_true rfl) ?_
  intro p e s m below meth c A ls H hAt hP hD hS hl
  obtain ⟨hx, hb, hr, hml, hown, hts, hN, hK, hlk, hnm, hA⟩ := hAt
  have hl : lv_has ls 4 [(0, .ref mx)] := hl
  have hown : s.vm.findClass RX11 = some m.cls := hown
  have hsb := kt_mulb hml_ hmw
  have hpw1 := fun k => kt_pw_1 (B := (ml.toInt * mw.toInt + 1)) (by omega) k
  refine lv_ldc2 (v := 2) hx hb hown (hts (.constantLong RX11 180 (2)) (List.mem_cons_of_mem _ (List.mem_append_left _ (List.Mem.head _)))) dX11_stands_0 ?_
  refine lv_topl (fun t_0 et_0 => ?_)
  have hk_0 : t_0.toInt = 2 := by rw [et_0]; decide
  refine lv_lstore_n (lv' := [(1, .long t_0), (0, .ref mx)]) hx hb dX11_stands_3 rfl hl (by decide) rfl (fun ls hl => ?_)
  refine lv_iconst (v := 0) hx hb dX11_stands_4 (by decide) ?_
  refine lv_istore_n (lv' := [(3, .int 0), (1, .long t_0), (0, .ref mx)]) hx hb dX11_stands_5 rfl hl (by decide) rfl (fun ls hl => ?_)
  refine kt_loop (σ := Nat × Int64) 6 4 (fun u => [(mx, .inr (11, [.int ml, .int mw, .ref ms, .int mgl, .int mhd, .int mre, .int mag, .int mkt, .int mho, .int mpc, .int msd, .int mki, .ref mk, .ref ma, .ref mo, .ref mg, .ref mm, .ref mt, .int mdn, .int mun, .ref mn, .int mtk, .ref me, .ref mq, .int msv, .ref mwo, .ref md, .ref mf, .ref mr]))]) (fun u => [(3, .int (nI u.1)), (1, .long u.2), (0, .ref mx)]) (fun n u => (u.1 ≤ 40 ∧ 40 < u.1 + n ∧ u.1 ≤ P_) ∧ u.2.toInt = 2 * kt_pw (ml.toInt * mw.toInt + 1) u.1 ∧ 2 ≤ u.2.toInt ∧ u.2.toInt ≤ 820000) (fun u h => by omega) (fun n_6 ih_6 u hI H locs hP hD hS ls hl => ?_) (41) (0, t_0) (by show (0 ≤ 40 ∧ 40 < 0 + 41 ∧ 0 ≤ P_) ∧ t_0.toInt = 2 * kt_pw (ml.toInt * mw.toInt + 1) 0 ∧ 2 ≤ t_0.toInt ∧ t_0.toInt ≤ 820000; exact ⟨⟨by decide, by decide, by omega⟩, by rw [hk_0]; rfl, by omega, by omega⟩) hP hD hS (lv_sub hl [0, 1, 2] rfl)
  obtain ⟨k, x⟩ := u
  have hP : va_P D vwCl [(mx, .inr (11, [.int ml, .int mw, .ref ms, .int mgl, .int mhd, .int mre, .int mag, .int mkt, .int mho, .int mpc, .int msd, .int mki, .ref mk, .ref ma, .ref mo, .ref mg, .ref mm, .ref mt, .int mdn, .int mun, .ref mn, .int mtk, .ref me, .ref mq, .int msv, .ref mwo, .ref md, .ref mf, .ref mr]))] H := hP
  have hD : va_D A [(mx, .inr (11, [.int ml, .int mw, .ref ms, .int mgl, .int mhd, .int mre, .int mag, .int mkt, .int mho, .int mpc, .int msd, .int mki, .ref mk, .ref ma, .ref mo, .ref mg, .ref mm, .ref mt, .int mdn, .int mun, .ref mn, .int mtk, .ref me, .ref mq, .int msv, .ref mwo, .ref md, .ref mf, .ref mr]))] := hD
  have hl : lv_has ls 4 [(3, .int (nI k)), (1, .long x), (0, .ref mx)] := hl
  have hI : (k ≤ 40 ∧ 40 < k + (n_6 + 1) ∧ k ≤ P_) ∧ x.toInt = 2 * kt_pw (ml.toInt * mw.toInt + 1) k ∧ 2 ≤ x.toInt ∧ x.toInt ≤ 820000 := hI
  obtain ⟨hkb, hx0, hx1⟩ := hI
  have hk0 := kt_nI (n := k) (by omega)
  refine lv_iload_n hx hb dX11_stands_6 rfl (lv_at hl 0 rfl) ?_
  refine lv_aload_n hx hb dX11_stands_7 rfl (lv_at hl 2 rfl) ?_
  refine va_get (D := D) (ci := 11) (C := RX11) (T := TX11) (N := 29) hx hb hts iw_X11_stands_X11 hown hK hP 0 rfl rfl 9 (by decide) (hts (.fieldLink RX11 103 "KingTableModel" "pieces" "I") (List.mem_cons_of_mem _ (List.mem_append_left _ (List.mem_cons_of_mem _ (List.Mem.head _))))) (fun _ h9 => h9) rfl dX11_stands_8 ?_
  refine lv_icmp_ge (tgt := 38) hx hb dX11_stands_11 (by decide) (fun c_11 => ?_) (fun c_11 => ?_)
  · have d_11 := c_11
    simp only [kt_lt, kt_le, kt_eq, kt_c0, kt_c1, kt_c2, kt_c3, kt_c4, kt_c8, kt_c9, kt_cm1, kt_c81, kt_c40, kt_c7, kt_c5, kt_c6, kt_c512, kt_c10, kt_c10000] at d_11
    refine lv_lload_n hx hb dX11_stands_38 rfl (lv_at hl 1 rfl) ?_
    exact kt_rl () hx hb hr hlk hS dX11_stands_39 hP hD (by show (2 ≤ x.toInt ∧ x.toInt ≤ 820000) ∧ (x.toInt ≤ 10000 → x.toInt = 2 * kt_pw (ml.toInt * mw.toInt + 1) P_) ∧ (10000 < x.toInt → 10000 < 2 * kt_pw (ml.toInt * mw.toInt + 1) P_); first | (have hkP : k = P_ := by omega); (rw [hkP] at hx0); exact ⟨by omega, fun _ => hx0, fun h => by omega⟩ | (have hm := kt_pw_m (B := (ml.toInt * mw.toInt + 1)) (by omega) (k := k) (n := P_) (by omega)); exact ⟨by omega, fun h => by exfalso; omega, fun _ => by omega⟩)
  · have d_11 := c_11
    simp only [kt_lt, kt_le, kt_eq, kt_c0, kt_c1, kt_c2, kt_c3, kt_c4, kt_c8, kt_c9, kt_cm1, kt_c81, kt_c40, kt_c7, kt_c5, kt_c6, kt_c512, kt_c10, kt_c10000] at d_11
    refine lv_lload_n hx hb dX11_stands_14 rfl (lv_at hl 1 rfl) ?_
    refine lv_ldc2 (v := 10000) hx hb hown (hts (.constantLong RX11 182 (10000)) (List.mem_cons_of_mem _ (List.mem_append_left _ (List.mem_cons_of_mem _ (List.mem_cons_of_mem _ (List.Mem.head _)))))) dX11_stands_15 ?_
    refine lv_topl (fun t_15 et_15 => ?_)
    have hk_15 : t_15.toInt = 10000 := by rw [et_15]; decide
    refine W.lcmp hx hb dX11_stands_18 ?_
    refine lv_topi (fun t_18 et_18 => ?_)
    have hk_18 := kt_lcmp et_18
    refine lv_if_gt (tgt := 38) hx hb dX11_stands_19 (by decide) (fun c_19 => ?_) (fun c_19 => ?_)
    · have d_19 := c_19
      simp only [kt_lt, kt_le, kt_eq, kt_c0, kt_c1, kt_c2, kt_c3, kt_c4, kt_c8, kt_c9, kt_cm1, kt_c81, kt_c40, kt_c7, kt_c5, kt_c6, kt_c512, kt_c10, kt_c10000] at d_19
      refine lv_lload_n hx hb dX11_stands_38 rfl (lv_at hl 1 rfl) ?_
      exact kt_rl () hx hb hr hlk hS dX11_stands_39 hP hD (by show (2 ≤ x.toInt ∧ x.toInt ≤ 820000) ∧ (x.toInt ≤ 10000 → x.toInt = 2 * kt_pw (ml.toInt * mw.toInt + 1) P_) ∧ (10000 < x.toInt → 10000 < 2 * kt_pw (ml.toInt * mw.toInt + 1) P_); first | (have hkP : k = P_ := by omega); (rw [hkP] at hx0); exact ⟨by omega, fun _ => hx0, fun h => by omega⟩ | (have hm := kt_pw_m (B := (ml.toInt * mw.toInt + 1)) (by omega) (k := k) (n := P_) (by omega)); exact ⟨by omega, fun h => by exfalso; omega, fun _ => by omega⟩)
    · have d_19 := c_19
      simp only [kt_lt, kt_le, kt_eq, kt_c0, kt_c1, kt_c2, kt_c3, kt_c4, kt_c8, kt_c9, kt_cm1, kt_c81, kt_c40, kt_c7, kt_c5, kt_c6, kt_c512, kt_c10, kt_c10000] at d_19
      refine lv_lload_n hx hb dX11_stands_22 rfl (lv_at hl 1 rfl) ?_
      refine lv_aload_n hx hb dX11_stands_23 rfl (lv_at hl 2 rfl) ?_
      refine kt_pi (wc := [(mx, .inr (11, [.int ml, .int mw, .ref ms, .int mgl, .int mhd, .int mre, .int mag, .int mkt, .int mho, .int mpc, .int msd, .int mki, .ref mk, .ref ma, .ref mo, .ref mg, .ref mm, .ref mt, .int mdn, .int mun, .ref mn, .int mtk, .ref me, .ref mq, .int msv, .ref mwo, .ref md, .ref mf, .ref mr]))]) [0] hP hD hS hA rfl (by decide) (fun hPc hDc => va_runV (As := []) (rest := [.long x]) ⟨hx, hb, hml, hown, hts⟩ (c_X11_fields l D cI cZ cB H.size mx ms mk ma mo mg mm mt mn me mq mwo md mf mr ml mw mgl mhd mre mag mkt mho mpc msd mki mdn mun mtk msv (by first | assumption | omega | rfl | decide) (by first | assumption | omega | rfl | decide)) (cwV 0 hts gX11_stands_X11_fields rfl rfl rfl (by decide +kernel) ⟨Nat.le_of_ble_eq_true rfl, Nat.le_of_ble_eq_true rfl⟩) (kt_preV hN hK hPc hDc 0 (ci := 11) (q := (RX11, TX11, 29)) rfl rfl) rfl rfl hl.1 rfl (lv_room (Nat.le_of_ble_eq_true rfl)) dX11_stands_24 ⟨Nat.le_of_ble_eq_true rfl, Nat.le_of_ble_eq_true rfl⟩) (fun r_24 _ H locs hw_24 hP hS => ?_)
      refine lv_iconst (v := 1) hx hb dX11_stands_27 (by decide) ?_
      refine lv_iadd hx hb dX11_stands_28 ?_
      refine lv_topi (fun t_28 et_28 => ?_)
      first | have hk_28 := kt_addx et_28 (by first | omega | (simp only [kt_c0, kt_c1, kt_c2, kt_c3, kt_c4, kt_c8, kt_c9, kt_cm1, kt_c81, kt_c40, kt_c7, kt_c5, kt_c6, kt_c512, kt_c10, kt_c10000]; omega)) (by first | omega | (simp only [kt_c0, kt_c1, kt_c2, kt_c3, kt_c4, kt_c8, kt_c9, kt_cm1, kt_c81, kt_c40, kt_c7, kt_c5, kt_c6, kt_c512, kt_c10, kt_c10000]; omega)) | obtain ⟨k_28, hk_28, hm_28, hM_28⟩ := kt_addk et_28
      try simp only [kt_c0, kt_c1, kt_c2, kt_c3, kt_c4, kt_c8, kt_c9, kt_cm1, kt_c81, kt_c40, kt_c7, kt_c5, kt_c6, kt_c512, kt_c10, kt_c10000] at hk_28
      refine lv_i2l hx hb dX11_stands_29 rfl ?_
      refine lv_topl (fun t_29 et_29 => ?_)
      have hk_29 : t_29.toInt = t_28.toInt := by rw [et_29]; exact Int32.toInt_toInt64 _
      have e29 : t_29.toInt = (ml.toInt * mw.toInt + 1) := by omega
      have hmb := kt_mulr (a := x.toInt) (b := t_29.toInt) (A := 10000) (B := 82) (by omega) (by omega)
      have hmp := kt_mulp (a := x.toInt) (b := t_29.toInt) (by omega) (by omega)
      have hm2 : x.toInt * 1 ≤ x.toInt * t_29.toInt := Int.mul_le_mul_of_nonneg_left (by omega) (by omega)
      refine lv_lmul hx hb dX11_stands_30 ?_
      refine lv_topl (fun t_30 et_30 => ?_)
      have hk_30 := kt_lmul et_30 (by omega) (by omega)
      refine lv_lstore_n (lv' := [(1, .long t_30), (3, .int (nI k)), (0, .ref mx)]) hx hb dX11_stands_31 rfl hl (by decide) rfl (fun ls hl => ?_)
      refine lv_iinc (v := nI (k + 1)) (lv' := [(3, .int (nI (k + 1))), (1, .long t_30), (0, .ref mx)]) hx hb dX11_stands_32 hl (k := 1) rfl (nI_1 _) (by decide) rfl (fun ls hl => ?_)
      refine lv_goto (tgt := 6) hx hb dX11_stands_35 (by decide) ?_
      exact ih_6 ((k + 1), t_30) (by show ((k + 1) ≤ 40 ∧ 40 < (k + 1) + n_6 ∧ (k + 1) ≤ P_) ∧ t_30.toInt = 2 * kt_pw (ml.toInt * mw.toInt + 1) (k + 1) ∧ 2 ≤ t_30.toInt ∧ t_30.toInt ≤ 820000; exact ⟨by omega, by show t_30.toInt = 2 * (kt_pw (ml.toInt * mw.toInt + 1) k * (ml.toInt * mw.toInt + 1)); rw [hk_30, e29, hx0, Int.mul_assoc], by omega, by omega⟩) H _ hP hD hS ls (lv_sub hl [0, 1, 2] rfl)

theorem iw_X11_number_X11 : ∀ w ∈ wsX110, w ∈ wsX11_number := fun _ h => kt_wp_X11_number__X110 h
set_option maxHeartbeats 4000000 in
set_option maxRecDepth 100000 in
theorem c_X11_number (l : Launch) (D : va_G) (cI cZ cB : ClassId) (sz : Nat) (mx : Nat) (ms : Nat) (mk : Nat) (ma : Nat) (mo : Nat) (mg : Nat) (mm : Nat) (mt : Nat) (mn : Nat) (me : Nat) (mq : Nat) (mwo : Nat) (md : Nat) (mf : Nat) (mr : Nat) (ml : Int32) (mw : Int32) (mgl : Int32) (mhd : Int32) (mre : Int32) (mag : Int32) (mkt : Int32) (mho : Int32) (mpc : Int32) (msd : Int32) (mki : Int32) (mdn : Int32) (mun : Int32) (mtk : Int32) (msv : Int32) (P_ : Nat) (fa : Nat → Int32) (hml_ : 2 ≤ ml.toInt ∧ ml.toInt ≤ 9) (hmw : 2 ≤ mw.toInt ∧ mw.toInt ≤ 9) (hpc : (P_ : Int) = mpc.toInt ∧ P_ ≤ 40) (hfa : kt_r fa P_ (-1) (ml.toInt * mw.toInt - 1)) (hst_ : 2 * kt_pw (ml.toInt * mw.toInt + 1) P_ ≤ 10000) (hsd : 0 ≤ msd.toInt ∧ msd.toInt ≤ 1) : kt_Mi l yX11_number wsX11_number { frames := 1, cells := 0, slots := 0, locals := 20 } D (kt_ty cI cZ cB) [.ref mx] sz [(mx, .inr (11, [.int ml, .int mw, .ref ms, .int mgl, .int mhd, .int mre, .int mag, .int mkt, .int mho, .int mpc, .int msd, .int mki, .ref mk, .ref ma, .ref mo, .ref mg, .ref mm, .ref mt, .int mdn, .int mun, .ref mn, .int mtk, .ref me, .ref mq, .int msv, .ref mwo, .ref md, .ref mf, .ref mr])), (ma, .inl (cI, 40, .inl fa))] (fun (r : Int32) (u : Unit) => 0 ≤ r.toInt ∧ r.toInt < 2 * kt_pw (ml.toInt * mw.toInt + 1) P_) (fun (u : Unit) => [(mx, .inr (11, [.int ml, .int mw, .ref ms, .int mgl, .int mhd, .int mre, .int mag, .int mkt, .int mho, .int mpc, .int msd, .int mki, .ref mk, .ref ma, .ref mo, .ref mg, .ref mm, .ref mt, .int mdn, .int mun, .ref mn, .int mtk, .ref me, .ref mq, .int msv, .ref mwo, .ref md, .ref mf, .ref mr])), (ma, .inl (cI, 40, .inl fa))]) 0 0 := by
  refine kt_Mi.of (cc := cX11_number) (maxL := 3) (ret := some .int) (by decide) rfl (Nat.le_of_ble_eq_true rfl) ?_
  intro p e s m below meth c A ls H hAt hP hD hS hl
  obtain ⟨hx, hb, hr, hml, hown, hts, hN, hK, hlk, hnm, hA⟩ := hAt
  have hl : lv_has ls 3 [(0, .ref mx)] := hl
  have hown : s.vm.findClass RX11 = some m.cls := hown
  have hsb := kt_mulb hml_ hmw
  refine lv_iconst (v := 0) hx hb dX11_number_0 (by decide) ?_
  refine lv_istore_n (lv' := [(1, .int 0), (0, .ref mx)]) hx hb dX11_number_1 rfl hl (by decide) rfl (fun ls hl => ?_)
  refine lv_aload_n hx hb dX11_number_2 rfl (lv_at hl 1 rfl) ?_
  refine va_get (D := D) (ci := 11) (C := RX11) (T := TX11) (N := 29) hx hb hts iw_X11_number_X11 hown hK hP 0 rfl rfl 9 (by decide) (hts (.fieldLink RX11 103 "KingTableModel" "pieces" "I") (List.mem_cons_of_mem _ (List.mem_append_left _ (List.Mem.head _)))) (fun _ h9 => h9) rfl dX11_number_3 ?_
  refine lv_iconst (v := 1) hx hb dX11_number_6 (by decide) ?_
  refine lv_isub hx hb dX11_number_7 ?_
  refine lv_topi (fun t_7 et_7 => ?_)
  first | have hk_7 := kt_subx et_7 (by first | omega | (simp only [kt_c0, kt_c1, kt_c2, kt_c3, kt_c4, kt_c8, kt_c9, kt_cm1, kt_c81, kt_c40, kt_c7, kt_c5, kt_c6, kt_c512, kt_c10, kt_c10000]; omega)) (by first | omega | (simp only [kt_c0, kt_c1, kt_c2, kt_c3, kt_c4, kt_c8, kt_c9, kt_cm1, kt_c81, kt_c40, kt_c7, kt_c5, kt_c6, kt_c512, kt_c10, kt_c10000]; omega)) | obtain ⟨k_7, hk_7, hm_7, hM_7⟩ := kt_subk et_7
  try simp only [kt_c0, kt_c1, kt_c2, kt_c3, kt_c4, kt_c8, kt_c9, kt_cm1, kt_c81, kt_c40, kt_c7, kt_c5, kt_c6, kt_c512, kt_c10, kt_c10000] at hk_7
  refine lv_istore_n (lv' := [(2, .int t_7), (1, .int 0), (0, .ref mx)]) hx hb dX11_number_8 rfl hl (by decide) rfl (fun ls hl => ?_)
  refine kt_loop (σ := Int32 × Int32) 9 3 (fun u => [(mx, .inr (11, [.int ml, .int mw, .ref ms, .int mgl, .int mhd, .int mre, .int mag, .int mkt, .int mho, .int mpc, .int msd, .int mki, .ref mk, .ref ma, .ref mo, .ref mg, .ref mm, .ref mt, .int mdn, .int mun, .ref mn, .int mtk, .ref me, .ref mq, .int msv, .ref mwo, .ref md, .ref mf, .ref mr])), (ma, .inl (cI, 40, .inl fa))]) (fun u => [(2, .int u.1), (1, .int u.2), (0, .ref mx)]) (fun n u => (-1 ≤ u.1.toInt ∧ u.1.toInt < (P_ : Int) ∧ u.1.toInt + 1 < n) ∧ 0 ≤ u.2.toInt ∧ u.2.toInt < kt_pw (ml.toInt * mw.toInt + 1) ((P_ : Int) - 1 - u.1.toInt).toNat) (fun u h => by omega) (fun n_9 ih_9 u hI H locs hP hD hS ls hl => ?_) (P_ + 1) (t_7, (0 : Int32)) (by show (-1 ≤ t_7.toInt ∧ t_7.toInt < (P_ : Int) ∧ t_7.toInt + 1 < (P_ + 1)) ∧ 0 ≤ (0 : Int32).toInt ∧ (0 : Int32).toInt < kt_pw (ml.toInt * mw.toInt + 1) ((P_ : Int) - 1 - t_7.toInt).toNat; exact ⟨by omega, by decide, by have := kt_pw_1 (B := (ml.toInt * mw.toInt + 1)) (by omega) ((P_ : Int) - 1 - t_7.toInt).toNat; rw [kt_c0]; omega⟩) hP hD hS (lv_sub hl [0, 1, 2] rfl)
  obtain ⟨i, v⟩ := u
  have hP : va_P D vwCl [(mx, .inr (11, [.int ml, .int mw, .ref ms, .int mgl, .int mhd, .int mre, .int mag, .int mkt, .int mho, .int mpc, .int msd, .int mki, .ref mk, .ref ma, .ref mo, .ref mg, .ref mm, .ref mt, .int mdn, .int mun, .ref mn, .int mtk, .ref me, .ref mq, .int msv, .ref mwo, .ref md, .ref mf, .ref mr])), (ma, .inl (cI, 40, .inl fa))] H := hP
  have hD : va_D A [(mx, .inr (11, [.int ml, .int mw, .ref ms, .int mgl, .int mhd, .int mre, .int mag, .int mkt, .int mho, .int mpc, .int msd, .int mki, .ref mk, .ref ma, .ref mo, .ref mg, .ref mm, .ref mt, .int mdn, .int mun, .ref mn, .int mtk, .ref me, .ref mq, .int msv, .ref mwo, .ref md, .ref mf, .ref mr])), (ma, .inl (cI, 40, .inl fa))] := hD
  have hl : lv_has ls 3 [(2, .int i), (1, .int v), (0, .ref mx)] := hl
  have hI : (-1 ≤ i.toInt ∧ i.toInt < (P_ : Int) ∧ i.toInt + 1 < (n_9 + 1)) ∧ 0 ≤ v.toInt ∧ v.toInt < kt_pw (ml.toInt * mw.toInt + 1) ((P_ : Int) - 1 - i.toInt).toNat := hI
  obtain ⟨hib, hv0, hv1⟩ := hI
  refine lv_iload_n hx hb dX11_number_9 rfl (lv_at hl 0 rfl) ?_
  refine lv_if_lt (tgt := 52) hx hb dX11_number_10 (by decide) (fun c_10 => ?_) (fun c_10 => ?_)
  · have d_10 := c_10
    simp only [kt_lt, kt_le, kt_eq, kt_c0, kt_c1, kt_c2, kt_c3, kt_c4, kt_c8, kt_c9, kt_cm1, kt_c81, kt_c40, kt_c7, kt_c5, kt_c6, kt_c512, kt_c10, kt_c10000] at d_10
    have hi1 : ((P_ : Int) - 1 - i.toInt).toNat = P_ := by omega
    rw [hi1] at hv1
    refine lv_iconst (v := 2) hx hb dX11_number_52 (by decide) ?_
    refine lv_iload_n hx hb dX11_number_53 rfl (lv_at hl 1 rfl) ?_
    refine lv_imul hx hb dX11_number_54 ?_
    refine lv_topi (fun t_54 et_54 => ?_)
    obtain ⟨k_54, hk_54, hm_54, hM_54⟩ := kt_mulk (C := 2) (et_54.trans (Int32.mul_comm _ _)) (by decide)
    try simp only [kt_c0, kt_c1, kt_c2, kt_c3, kt_c4, kt_c8, kt_c9, kt_cm1, kt_c81, kt_c40, kt_c7, kt_c5, kt_c6, kt_c512, kt_c10, kt_c10000] at hk_54
    refine lv_aload_n hx hb dX11_number_55 rfl (lv_at hl 2 rfl) ?_
    refine va_get (D := D) (ci := 11) (C := RX11) (T := TX11) (N := 29) hx hb hts iw_X11_number_X11 hown hK hP 0 rfl rfl 10 (by decide) (hts (.fieldLink RX11 126 "KingTableModel" "side" "I") (List.mem_cons_of_mem _ (List.mem_append_left _ (List.mem_cons_of_mem _ (List.mem_cons_of_mem _ (List.Mem.head _)))))) (fun _ h9 => h9) rfl dX11_number_56 ?_
    refine lv_iadd hx hb dX11_number_59 ?_
    refine lv_topi (fun t_59 et_59 => ?_)
    first | have hk_59 := kt_addx et_59 (by first | omega | (simp only [kt_c0, kt_c1, kt_c2, kt_c3, kt_c4, kt_c8, kt_c9, kt_cm1, kt_c81, kt_c40, kt_c7, kt_c5, kt_c6, kt_c512, kt_c10, kt_c10000]; omega)) (by first | omega | (simp only [kt_c0, kt_c1, kt_c2, kt_c3, kt_c4, kt_c8, kt_c9, kt_cm1, kt_c81, kt_c40, kt_c7, kt_c5, kt_c6, kt_c512, kt_c10, kt_c10000]; omega)) | obtain ⟨k_59, hk_59, hm_59, hM_59⟩ := kt_addk et_59
    exact kt_ri () hx hb hr hlk hS dX11_number_60 hP hD (by show 0 ≤ t_59.toInt ∧ t_59.toInt < 2 * kt_pw (ml.toInt * mw.toInt + 1) P_; omega)
  · have d_10 := c_10
    simp only [kt_lt, kt_le, kt_eq, kt_c0, kt_c1, kt_c2, kt_c3, kt_c4, kt_c8, kt_c9, kt_cm1, kt_c81, kt_c40, kt_c7, kt_c5, kt_c6, kt_c512, kt_c10, kt_c10000] at d_10
    have hpm := kt_pw_m (B := (ml.toInt * mw.toInt + 1)) (by omega) (k := ((P_ : Int) - 1 - i.toInt).toNat) (n := P_) (by omega)
    refine lv_iload_n hx hb dX11_number_13 rfl (lv_at hl 1 rfl) ?_
    refine lv_aload_n hx hb dX11_number_14 rfl (lv_at hl 2 rfl) ?_
    refine kt_pi (wc := [(mx, .inr (11, [.int ml, .int mw, .ref ms, .int mgl, .int mhd, .int mre, .int mag, .int mkt, .int mho, .int mpc, .int msd, .int mki, .ref mk, .ref ma, .ref mo, .ref mg, .ref mm, .ref mt, .int mdn, .int mun, .ref mn, .int mtk, .ref me, .ref mq, .int msv, .ref mwo, .ref md, .ref mf, .ref mr]))]) [0] hP hD hS hA rfl (by decide) (fun hPc hDc => va_runV (As := []) (rest := [.int v]) ⟨hx, hb, hml, hown, hts⟩ (c_X11_fields l D cI cZ cB H.size mx ms mk ma mo mg mm mt mn me mq mwo md mf mr ml mw mgl mhd mre mag mkt mho mpc msd mki mdn mun mtk msv (by first | assumption | omega | rfl | decide) (by first | assumption | omega | rfl | decide)) (cwV 0 hts gX11_number_X11_fields rfl rfl rfl (by decide +kernel) ⟨Nat.le_of_ble_eq_true rfl, Nat.le_of_ble_eq_true rfl⟩) (kt_preV hN hK hPc hDc 0 (ci := 11) (q := (RX11, TX11, 29)) rfl rfl) rfl rfl hl.1 rfl (lv_room (Nat.le_of_ble_eq_true rfl)) dX11_number_15 ⟨Nat.le_of_ble_eq_true rfl, Nat.le_of_ble_eq_true rfl⟩) (fun r_15 _ H locs hw_15 hP hS => ?_)
    refine lv_iconst (v := 1) hx hb dX11_number_18 (by decide) ?_
    refine lv_iadd hx hb dX11_number_19 ?_
    refine lv_topi (fun t_19 et_19 => ?_)
    first | have hk_19 := kt_addx et_19 (by first | omega | (simp only [kt_c0, kt_c1, kt_c2, kt_c3, kt_c4, kt_c8, kt_c9, kt_cm1, kt_c81, kt_c40, kt_c7, kt_c5, kt_c6, kt_c512, kt_c10, kt_c10000]; omega)) (by first | omega | (simp only [kt_c0, kt_c1, kt_c2, kt_c3, kt_c4, kt_c8, kt_c9, kt_cm1, kt_c81, kt_c40, kt_c7, kt_c5, kt_c6, kt_c512, kt_c10, kt_c10000]; omega)) | obtain ⟨k_19, hk_19, hm_19, hM_19⟩ := kt_addk et_19
    try simp only [kt_c0, kt_c1, kt_c2, kt_c3, kt_c4, kt_c8, kt_c9, kt_cm1, kt_c81, kt_c40, kt_c7, kt_c5, kt_c6, kt_c512, kt_c10, kt_c10000] at hk_19
    refine lv_imul hx hb dX11_number_20 ?_
    refine lv_topi (fun t_20 et_20 => ?_)
    obtain ⟨k_20, hk_20, hm_20, hM_20⟩ := kt_mulxk et_20
    have e19 : t_19.toInt = (ml.toInt * mw.toInt + 1) := by omega
    have hmb := kt_mulr (a := v.toInt) (b := t_19.toInt) (A := 5000) (B := 82) (by omega) (by omega)
    have e20 : t_20.toInt = v.toInt * (ml.toInt * mw.toInt + 1) := by rw [← e19]; omega
    refine lv_aload_n hx hb dX11_number_21 rfl (lv_at hl 2 rfl) ?_
    refine va_get (D := D) (ci := 11) (C := RX11) (T := TX11) (N := 29) hx hb hts iw_X11_number_X11 hown hK hP 0 rfl rfl 13 (by decide) (hts (.fieldLink RX11 30 "KingTableModel" "at" "[I") (List.mem_cons_of_mem _ (List.mem_append_left _ (List.mem_cons_of_mem _ (List.Mem.head _))))) (fun _ h9 => h9) rfl dX11_number_22 ?_
    refine lv_iload_n hx hb dX11_number_25 rfl (lv_at hl 0 rfl) ?_
    have hi_1 : vp_in i 40 := by exact kt_in (by omega) (by omega)
    refine va_iald hx hb hK hP 1 0 rfl rfl hi_1 dX11_number_26 ?_
    refine lv_topi (fun a_26 ea_26 => ?_)
    have ra_26 := hfa.get (kt_in (x := i) (n := P_) (by omega) (by omega))
    rw [← ea_26] at ra_26
    refine lv_iconst (v := (-1)) hx hb dX11_number_27 (by decide) ?_
    refine kt_join (σ := Int32) 44 3 (fun u => [(mx, .inr (11, [.int ml, .int mw, .ref ms, .int mgl, .int mhd, .int mre, .int mag, .int mkt, .int mho, .int mpc, .int msd, .int mki, .ref mk, .ref ma, .ref mo, .ref mg, .ref mm, .ref mt, .int mdn, .int mun, .ref mn, .int mtk, .ref me, .ref mq, .int msv, .ref mwo, .ref md, .ref mf, .ref mr])), (ma, .inl (cI, 40, .inl fa))]) (fun u => [(2, .int i), (1, .int v), (0, .ref mx)]) (fun u => [.int u, .int t_20]) (fun u => 0 ≤ u.toInt ∧ u.toInt ≤ ml.toInt * mw.toInt) (D := D) (A := A) (H0 := s.heap) (fun u hI H locs hP hD hS ls hl => ?_) (fun j_44 => ?_)
    · obtain ⟨d, rfl⟩ : ∃ z, z = u := ⟨_, rfl⟩
      have hP : va_P D vwCl [(mx, .inr (11, [.int ml, .int mw, .ref ms, .int mgl, .int mhd, .int mre, .int mag, .int mkt, .int mho, .int mpc, .int msd, .int mki, .ref mk, .ref ma, .ref mo, .ref mg, .ref mm, .ref mt, .int mdn, .int mun, .ref mn, .int mtk, .ref me, .ref mq, .int msv, .ref mwo, .ref md, .ref mf, .ref mr])), (ma, .inl (cI, 40, .inl fa))] H := hP
      have hD : va_D A [(mx, .inr (11, [.int ml, .int mw, .ref ms, .int mgl, .int mhd, .int mre, .int mag, .int mkt, .int mho, .int mpc, .int msd, .int mki, .ref mk, .ref ma, .ref mo, .ref mg, .ref mm, .ref mt, .int mdn, .int mun, .ref mn, .int mtk, .ref me, .ref mq, .int msv, .ref mwo, .ref md, .ref mf, .ref mr])), (ma, .inl (cI, 40, .inl fa))] := hD
      have hl : lv_has ls 3 [(2, .int i), (1, .int v), (0, .ref mx)] := hl
      have hI : 0 ≤ d.toInt ∧ d.toInt ≤ ml.toInt * mw.toInt := hI
      have hd := hI
      have hdg := kt_dig (v := v.toInt) (p := kt_pw (ml.toInt * mw.toInt + 1) ((P_ : Int) - 1 - i.toInt).toNat) (d := d.toInt) (B := (ml.toInt * mw.toInt + 1)) hv1 (by omega) (by omega)
      have hmp2 : 0 ≤ v.toInt * (ml.toInt * mw.toInt + 1) := by rw [← e19]; exact hmb.1
      have hdl : v.toInt * (ml.toInt * mw.toInt + 1) ≤ 410000 := by rw [← e19]; omega
      refine lv_iadd hx hb dX11_number_44 ?_
      refine lv_topi (fun t_44 et_44 => ?_)
      first | have hk_44 := kt_addx et_44 (by first | omega | (simp only [kt_c0, kt_c1, kt_c2, kt_c3, kt_c4, kt_c8, kt_c9, kt_cm1, kt_c81, kt_c40, kt_c7, kt_c5, kt_c6, kt_c512, kt_c10, kt_c10000]; omega)) (by first | omega | (simp only [kt_c0, kt_c1, kt_c2, kt_c3, kt_c4, kt_c8, kt_c9, kt_cm1, kt_c81, kt_c40, kt_c7, kt_c5, kt_c6, kt_c512, kt_c10, kt_c10000]; omega)) | obtain ⟨k_44, hk_44, hm_44, hM_44⟩ := kt_addk et_44
      refine lv_istore_n (lv' := [(1, .int t_44), (2, .int i), (0, .ref mx)]) hx hb dX11_number_45 rfl hl (by decide) rfl (fun ls hl => ?_)
      obtain ⟨t_46, et_46⟩ : ∃ y : Int32, y = i + (-1) := ⟨_, rfl⟩
      obtain ⟨k_46, hk_46, hm_46, hM_46⟩ := kt_addk et_46
      try simp only [kt_c0, kt_c1, kt_c2, kt_c3, kt_c4, kt_c8, kt_c9, kt_cm1, kt_c81, kt_c40, kt_c7, kt_c5, kt_c6, kt_c512, kt_c10, kt_c10000] at hk_46
      refine lv_iinc (v := t_46) (lv' := [(2, .int t_46), (1, .int t_44), (0, .ref mx)]) hx hb dX11_number_46 hl (k := 1) rfl (by rw [et_46]; rfl) (by decide) rfl (fun ls hl => ?_)
      refine lv_goto (tgt := 9) hx hb dX11_number_49 (by decide) ?_
      exact ih_9 (t_46, t_44) (by show (-1 ≤ t_46.toInt ∧ t_46.toInt < (P_ : Int) ∧ t_46.toInt + 1 < n_9) ∧ 0 ≤ t_44.toInt ∧ t_44.toInt < kt_pw (ml.toInt * mw.toInt + 1) ((P_ : Int) - 1 - t_46.toInt).toNat; exact ⟨by omega, by omega, by rw [show ((P_ : Int) - 1 - t_46.toInt).toNat = ((P_ : Int) - 1 - i.toInt).toNat + 1 by omega]; show t_44.toInt < kt_pw (ml.toInt * mw.toInt + 1) ((P_ : Int) - 1 - i.toInt).toNat * (ml.toInt * mw.toInt + 1); omega⟩) H _ hP hD hS ls (lv_sub hl [0, 1, 2] rfl)
    refine lv_icmp_ne (tgt := 38) hx hb dX11_number_28 (by decide) (fun c_28 => ?_) (fun c_28 => ?_)
    · have d_28 := c_28
      simp only [kt_lt, kt_le, kt_eq, kt_c0, kt_c1, kt_c2, kt_c3, kt_c4, kt_c8, kt_c9, kt_cm1, kt_c81, kt_c40, kt_c7, kt_c5, kt_c6, kt_c512, kt_c10, kt_c10000] at d_28
      refine lv_aload_n hx hb dX11_number_38 rfl (lv_at hl 2 rfl) ?_
      refine va_get (D := D) (ci := 11) (C := RX11) (T := TX11) (N := 29) hx hb hts iw_X11_number_X11 hown hK hP 0 rfl rfl 13 (by decide) (hts (.fieldLink RX11 30 "KingTableModel" "at" "[I") (List.mem_cons_of_mem _ (List.mem_append_left _ (List.mem_cons_of_mem _ (List.Mem.head _))))) (fun _ h9 => h9) rfl dX11_number_39 ?_
      refine lv_iload_n hx hb dX11_number_42 rfl (lv_at hl 0 rfl) ?_
      have hi_2 : vp_in i 40 := by exact kt_in (by omega) (by omega)
      refine va_iald hx hb hK hP 1 0 rfl rfl hi_2 dX11_number_43 ?_
      refine lv_topi (fun a_43 ea_43 => ?_)
      have ra_43 := hfa.get (kt_in (x := i) (n := P_) (by omega) (by omega))
      rw [← ea_43] at ra_43
      exact j_44 a_43 (by show 0 ≤ a_43.toInt ∧ a_43.toInt ≤ ml.toInt * mw.toInt; first | omega | (have hq43 : a_43.toInt = a_26.toInt := by rw [ea_43, ea_26]); omega) H _ hP hD hS ls (lv_sub hl [0, 1, 2] rfl)
    · have d_28 := c_28
      simp only [kt_lt, kt_le, kt_eq, kt_c0, kt_c1, kt_c2, kt_c3, kt_c4, kt_c8, kt_c9, kt_cm1, kt_c81, kt_c40, kt_c7, kt_c5, kt_c6, kt_c512, kt_c10, kt_c10000] at d_28
      refine lv_aload_n hx hb dX11_number_31 rfl (lv_at hl 2 rfl) ?_
      refine kt_pi (wc := [(mx, .inr (11, [.int ml, .int mw, .ref ms, .int mgl, .int mhd, .int mre, .int mag, .int mkt, .int mho, .int mpc, .int msd, .int mki, .ref mk, .ref ma, .ref mo, .ref mg, .ref mm, .ref mt, .int mdn, .int mun, .ref mn, .int mtk, .ref me, .ref mq, .int msv, .ref mwo, .ref md, .ref mf, .ref mr]))]) [0] hP hD hS hA rfl (by decide) (fun hPc hDc => va_runV (As := []) (rest := [.int t_20]) ⟨hx, hb, hml, hown, hts⟩ (c_X11_fields l D cI cZ cB H.size mx ms mk ma mo mg mm mt mn me mq mwo md mf mr ml mw mgl mhd mre mag mkt mho mpc msd mki mdn mun mtk msv (by first | assumption | omega | rfl | decide) (by first | assumption | omega | rfl | decide)) (cwV 0 hts gX11_number_X11_fields rfl rfl rfl (by decide +kernel) ⟨Nat.le_of_ble_eq_true rfl, Nat.le_of_ble_eq_true rfl⟩) (kt_preV hN hK hPc hDc 0 (ci := 11) (q := (RX11, TX11, 29)) rfl rfl) rfl rfl hl.1 rfl (lv_room (Nat.le_of_ble_eq_true rfl)) dX11_number_32 ⟨Nat.le_of_ble_eq_true rfl, Nat.le_of_ble_eq_true rfl⟩) (fun r_32 _ H locs hw_32 hP hS => ?_)
      refine lv_goto (tgt := 44) hx hb dX11_number_35 (by decide) ?_
      exact j_44 r_32 (by show 0 ≤ r_32.toInt ∧ r_32.toInt ≤ ml.toInt * mw.toInt; first | omega | (have hq43 : a_43.toInt = a_26.toInt := by rw [ea_43, ea_26]); omega) H _ hP hD hS ls (lv_sub hl [0, 1, 2] rfl)

theorem iw_X11_setUp_X11 : ∀ w ∈ wsX110, w ∈ wsX11_setUp := fun _ h => kt_wp_X11_setUp__X110 h
set_option maxHeartbeats 4000000 in
set_option maxRecDepth 100000 in
theorem c_X11_setUp (l : Launch) (D : va_G) (cI cZ cB : ClassId) (sz : Nat) (mx : Nat) (ms : Nat) (mk : Nat) (ma : Nat) (mo : Nat) (mg : Nat) (mm : Nat) (mt : Nat) (mn : Nat) (me : Nat) (mq : Nat) (mwo : Nat) (md : Nat) (mf : Nat) (mr : Nat) (ml : Int32) (mw : Int32) (mgl : Int32) (mhd : Int32) (mre : Int32) (mag : Int32) (mkt : Int32) (mho : Int32) (mpc : Int32) (msd : Int32) (mki : Int32) (mdn : Int32) (mun : Int32) (mtk : Int32) (msv : Int32) (P_ : Nat) (fa : Nat → Int32) (fo : Nat → Int32) (fr : Nat → Int32) (fk : Nat → Int32) (p1 : Int32) (hml_ : 2 ≤ ml.toInt ∧ ml.toInt ≤ 9) (hmw : 2 ≤ mw.toInt ∧ mw.toInt ≤ 9) (hpc : (P_ : Int) = mpc.toInt ∧ P_ ≤ 40) (hfa : kt_r fa P_ (-1) (ml.toInt * mw.toInt - 1)) (hco : kt_con fo fa P_) (hp1 : 0 ≤ p1.toInt) : kt_Mi l yX11_setUp wsX11_setUp { frames := 1, cells := 0, slots := 0, locals := 22 } D (kt_ty cI cZ cB) [.ref mx, .int p1] sz [(mx, .inr (11, [.int ml, .int mw, .ref ms, .int mgl, .int mhd, .int mre, .int mag, .int mkt, .int mho, .int mpc, .int msd, .int mki, .ref mk, .ref ma, .ref mo, .ref mg, .ref mm, .ref mt, .int mdn, .int mun, .ref mn, .int mtk, .ref me, .ref mq, .int msv, .ref mwo, .ref md, .ref mf, .ref mr])), (ma, .inl (cI, 40, .inl fa)), (mo, .inl (cI, 81, .inl fo)), (mg, .inl (cI, 81, .inl fr)), (mk, .inl (cI, 40, .inl fk))] (fun (r : Int32) (u : (Nat → Int32) × (Nat → Int32) × Int32) => (0 ≤ r.toInt ∧ r.toInt ≤ 1) ∧ kt_r u.1 P_ (-1) (ml.toInt * mw.toInt - 1) ∧ kt_con u.2.1 u.1 P_ ∧ 0 ≤ u.2.2.toInt ∧ u.2.2.toInt ≤ 1) (fun (u : (Nat → Int32) × (Nat → Int32) × Int32) => [(mx, .inr (11, [.int ml, .int mw, .ref ms, .int mgl, .int mhd, .int mre, .int mag, .int mkt, .int mho, .int mpc, .int u.2.2, .int mki, .ref mk, .ref ma, .ref mo, .ref mg, .ref mm, .ref mt, .int mdn, .int mun, .ref mn, .int mtk, .ref me, .ref mq, .int msv, .ref mwo, .ref md, .ref mf, .ref mr])), (ma, .inl (cI, 40, .inl u.1)), (mo, .inl (cI, 81, .inl u.2.1)), (mg, .inl (cI, 81, .inl fr)), (mk, .inl (cI, 40, .inl fk))]) 0 0 := by
  refine kt_Mi.of (cc := cX11_setUp) (maxL := 6) (ret := some .boolean) (by decide) rfl (Nat.le_of_ble_eq_true rfl) ?_
  intro p e s m below meth c A ls H hAt hP hD hS hl
  obtain ⟨hx, hb, hr, hml, hown, hts, hN, hK, hlk, hnm, hA⟩ := hAt
  have hl : lv_has ls 6 [(0, .ref mx), (1, .int p1)] := hl
  have hown : s.vm.findClass RX11 = some m.cls := hown
  have hsb := kt_mulb hml_ hmw
  have hout : ∀ j : Nat, j < 81 → ml.toInt * mw.toInt ≤ (j : Int) → fo j = -1 := by
    intro j hj hs
    by_cases e : fo j = -1
    · exact e
    · obtain ⟨qq, hq1, hq2, hq3⟩ := hco j hj e
      have h9 := hfa qq hq1
      rw [hq3, kt_nI (by omega)] at h9
      omega
  refine lv_iload_n hx hb dX11_setUp_0 rfl (lv_at hl 1 rfl) ?_
  refine lv_iconst (v := 2) hx hb dX11_setUp_1 (by decide) ?_
  refine lv_idiv hx hb dX11_setUp_2 (by decide) ?_
  refine lv_topi (fun t_2 et_2 => ?_)
  have hk_2 := kt_divk et_2 (by omega) (by decide)
  rw [show (2 : Int32).toInt = 2 by decide] at hk_2
  refine lv_istore_n (lv' := [(2, .int t_2), (0, .ref mx), (1, .int p1)]) hx hb dX11_setUp_3 rfl hl (by decide) rfl (fun ls hl => ?_)
  refine lv_iconst (v := 1) hx hb dX11_setUp_4 (by decide) ?_
  refine lv_istore_n (lv' := [(3, .int 1), (2, .int t_2), (0, .ref mx), (1, .int p1)]) hx hb dX11_setUp_5 rfl hl (by decide) rfl (fun ls hl => ?_)
  refine lv_aload_n hx hb dX11_setUp_6 rfl (lv_at hl 2 rfl) ?_
  refine lv_iload_n hx hb dX11_setUp_7 rfl (lv_at hl 3 rfl) ?_
  refine lv_iconst (v := 2) hx hb dX11_setUp_8 (by decide) ?_
  refine lv_irem hx hb dX11_setUp_9 (by decide) ?_
  refine lv_topi (fun t_9 et_9 => ?_)
  have hk_9 := kt_remk et_9 (by omega) (by decide)
  rw [show (2 : Int32).toInt = 2 by decide] at hk_9
  refine va_put (D := D) (ci := 11) (v := .int t_9) (ty := .int) (C := RX11) (T := TX11) (N := 29) hx hb hts iw_X11_setUp_X11 tyX11 tyX11_ok nmX11 hown hK hP hD hS 0 rfl rfl 10 (by decide) (hts (.fieldLink RX11 126 "KingTableModel" "side" "I") (List.mem_cons_of_mem _ (List.mem_append_left _ (List.Mem.head _)))) (fun _ h9 => h9) rfl (by decide +kernel) rfl rfl (Nat.le_of_ble_eq_true rfl) dX11_setUp_10 (fun H locs hP hD hS => ?_)
  have hP : va_P D vwCl [(mx, .inr (11, [.int ml, .int mw, .ref ms, .int mgl, .int mhd, .int mre, .int mag, .int mkt, .int mho, .int mpc, .int t_9, .int mki, .ref mk, .ref ma, .ref mo, .ref mg, .ref mm, .ref mt, .int mdn, .int mun, .ref mn, .int mtk, .ref me, .ref mq, .int msv, .ref mwo, .ref md, .ref mf, .ref mr])), (ma, .inl (cI, 40, .inl fa)), (mo, .inl (cI, 81, .inl fo)), (mg, .inl (cI, 81, .inl fr)), (mk, .inl (cI, 40, .inl fk))] H := hP
  have hD : va_D A [(mx, .inr (11, [.int ml, .int mw, .ref ms, .int mgl, .int mhd, .int mre, .int mag, .int mkt, .int mho, .int mpc, .int t_9, .int mki, .ref mk, .ref ma, .ref mo, .ref mg, .ref mm, .ref mt, .int mdn, .int mun, .ref mn, .int mtk, .ref me, .ref mq, .int msv, .ref mwo, .ref md, .ref mf, .ref mr])), (ma, .inl (cI, 40, .inl fa)), (mo, .inl (cI, 81, .inl fo)), (mg, .inl (cI, 81, .inl fr)), (mk, .inl (cI, 40, .inl fk))] := hD
  refine lv_iconst (v := 0) hx hb dX11_setUp_13 (by decide) ?_
  refine lv_istore (lv' := [(4, .int 0), (3, .int 1), (2, .int t_2), (0, .ref mx), (1, .int p1)]) hx hb dX11_setUp_14 hl (by decide) rfl (fun ls hl => ?_)
  refine kt_loop (σ := Nat × (Nat → Int32)) 16 6 (fun u => [(mx, .inr (11, [.int ml, .int mw, .ref ms, .int mgl, .int mhd, .int mre, .int mag, .int mkt, .int mho, .int mpc, .int t_9, .int mki, .ref mk, .ref ma, .ref mo, .ref mg, .ref mm, .ref mt, .int mdn, .int mun, .ref mn, .int mtk, .ref me, .ref mq, .int msv, .ref mwo, .ref md, .ref mf, .ref mr])), (ma, .inl (cI, 40, .inl fa)), (mo, .inl (cI, 81, .inl u.2)), (mg, .inl (cI, 81, .inl fr)), (mk, .inl (cI, 40, .inl fk))]) (fun u => [(4, .int (nI u.1)), (3, .int 1), (2, .int t_2), (0, .ref mx), (1, .int p1)]) (fun n u => (u.1 ≤ 81 ∧ 81 < u.1 + n ∧ (u.1 : Int) ≤ ml.toInt * mw.toInt) ∧ (∀ j : Nat, j < u.1 → u.2 j = -1) ∧ ∀ j : Nat, j < 81 → ml.toInt * mw.toInt ≤ (j : Int) → u.2 j = -1) (fun u h => by omega) (fun n_16 ih_16 u hI H locs hP hD hS ls hl => ?_) (82) (0, fo) (by show (0 ≤ 81 ∧ 81 < 0 + 82 ∧ (0 : Int) ≤ ml.toInt * mw.toInt) ∧ (∀ j : Nat, j < 0 → fo j = -1) ∧ ∀ j : Nat, j < 81 → ml.toInt * mw.toInt ≤ (j : Int) → fo j = -1; exact ⟨⟨by decide, by decide, by omega⟩, fun j h => absurd h (Nat.not_lt_zero j), hout⟩) hP hD hS (lv_sub hl [0, 1, 2, 3, 4] rfl)
  obtain ⟨k, o⟩ := u
  have hP : va_P D vwCl [(mx, .inr (11, [.int ml, .int mw, .ref ms, .int mgl, .int mhd, .int mre, .int mag, .int mkt, .int mho, .int mpc, .int t_9, .int mki, .ref mk, .ref ma, .ref mo, .ref mg, .ref mm, .ref mt, .int mdn, .int mun, .ref mn, .int mtk, .ref me, .ref mq, .int msv, .ref mwo, .ref md, .ref mf, .ref mr])), (ma, .inl (cI, 40, .inl fa)), (mo, .inl (cI, 81, .inl o)), (mg, .inl (cI, 81, .inl fr)), (mk, .inl (cI, 40, .inl fk))] H := hP
  have hD : va_D A [(mx, .inr (11, [.int ml, .int mw, .ref ms, .int mgl, .int mhd, .int mre, .int mag, .int mkt, .int mho, .int mpc, .int t_9, .int mki, .ref mk, .ref ma, .ref mo, .ref mg, .ref mm, .ref mt, .int mdn, .int mun, .ref mn, .int mtk, .ref me, .ref mq, .int msv, .ref mwo, .ref md, .ref mf, .ref mr])), (ma, .inl (cI, 40, .inl fa)), (mo, .inl (cI, 81, .inl o)), (mg, .inl (cI, 81, .inl fr)), (mk, .inl (cI, 40, .inl fk))] := hD
  have hl : lv_has ls 6 [(4, .int (nI k)), (3, .int 1), (2, .int t_2), (0, .ref mx), (1, .int p1)] := hl
  have hI : (k ≤ 81 ∧ 81 < k + (n_16 + 1) ∧ (k : Int) ≤ ml.toInt * mw.toInt) ∧ (∀ j : Nat, j < k → o j = -1) ∧ ∀ j : Nat, j < 81 → ml.toInt * mw.toInt ≤ (j : Int) → o j = -1 := hI
  obtain ⟨hkb, hz, hz2⟩ := hI
  have hk0 := kt_nI (n := k) (by omega)
  refine lv_iload hx hb dX11_setUp_16 (lv_at hl 0 rfl) ?_
  refine lv_aload_n hx hb dX11_setUp_18 rfl (lv_at hl 3 rfl) ?_
  refine kt_pi (wc := [(mx, .inr (11, [.int ml, .int mw, .ref ms, .int mgl, .int mhd, .int mre, .int mag, .int mkt, .int mho, .int mpc, .int t_9, .int mki, .ref mk, .ref ma, .ref mo, .ref mg, .ref mm, .ref mt, .int mdn, .int mun, .ref mn, .int mtk, .ref me, .ref mq, .int msv, .ref mwo, .ref md, .ref mf, .ref mr]))]) [0] hP hD hS hA rfl (by decide) (fun hPc hDc => va_runV (As := []) (rest := [.int (nI k)]) ⟨hx, hb, hml, hown, hts⟩ (c_X11_fields l D cI cZ cB H.size mx ms mk ma mo mg mm mt mn me mq mwo md mf mr ml mw mgl mhd mre mag mkt mho mpc t_9 mki mdn mun mtk msv (by first | assumption | omega | rfl | decide) (by first | assumption | omega | rfl | decide)) (cwV 0 hts gX11_setUp_X11_fields rfl rfl rfl (by decide +kernel) ⟨Nat.le_of_ble_eq_true rfl, Nat.le_of_ble_eq_true rfl⟩) (kt_preV hN hK hPc hDc 0 (ci := 11) (q := (RX11, TX11, 29)) rfl rfl) rfl rfl hl.1 rfl (lv_room (Nat.le_of_ble_eq_true rfl)) dX11_setUp_19 ⟨Nat.le_of_ble_eq_true rfl, Nat.le_of_ble_eq_true rfl⟩) (fun r_19 _ H locs hw_19 hP hS => ?_)
  refine lv_icmp_ge (tgt := 39) hx hb dX11_setUp_22 (by decide) (fun c_22 => ?_) (fun c_22 => ?_)
  · have d_22 := c_22
    simp only [kt_lt, kt_le, kt_eq, kt_c0, kt_c1, kt_c2, kt_c3, kt_c4, kt_c8, kt_c9, kt_cm1, kt_c81, kt_c40, kt_c7, kt_c5, kt_c6, kt_c512, kt_c10, kt_c10000] at d_22
    refine lv_iconst (v := 0) hx hb dX11_setUp_39 (by decide) ?_
    refine lv_istore (lv' := [(4, .int 0), (3, .int 1), (2, .int t_2), (0, .ref mx), (1, .int p1)]) hx hb dX11_setUp_40 hl (by decide) rfl (fun ls hl => ?_)
    refine kt_loop (σ := Nat × Int32 × Int32 × (Nat → Int32) × (Nat → Int32)) 42 6 (fun u => [(mx, .inr (11, [.int ml, .int mw, .ref ms, .int mgl, .int mhd, .int mre, .int mag, .int mkt, .int mho, .int mpc, .int t_9, .int mki, .ref mk, .ref ma, .ref mo, .ref mg, .ref mm, .ref mt, .int mdn, .int mun, .ref mn, .int mtk, .ref me, .ref mq, .int msv, .ref mwo, .ref md, .ref mf, .ref mr])), (ma, .inl (cI, 40, .inl u.2.2.2.1)), (mo, .inl (cI, 81, .inl u.2.2.2.2)), (mg, .inl (cI, 81, .inl fr)), (mk, .inl (cI, 40, .inl fk))]) (fun u => [(4, .int (nI u.1)), (3, .int u.2.2.1), (2, .int u.2.1), (0, .ref mx), (1, .int p1)]) (fun n u => (u.1 ≤ 40 ∧ 40 < u.1 + n ∧ u.1 ≤ P_) ∧ 0 ≤ u.2.1.toInt ∧ (0 ≤ u.2.2.1.toInt ∧ u.2.2.1.toInt ≤ 1) ∧ kt_r u.2.2.2.1 u.1 (-1) (ml.toInt * mw.toInt - 1) ∧ kt_con u.2.2.2.2 u.2.2.2.1 u.1) (fun u h => by omega) (fun n_42 ih_42 u hI H locs hP hD hS ls hl => ?_) (41) (0, t_2, (1 : Int32), fa, o) (by show (0 ≤ 40 ∧ 40 < 0 + 41 ∧ 0 ≤ P_) ∧ 0 ≤ t_2.toInt ∧ (0 ≤ (1 : Int32).toInt ∧ (1 : Int32).toInt ≤ 1) ∧ kt_r fa 0 (-1) (ml.toInt * mw.toInt - 1) ∧ kt_con o fa 0; exact ⟨⟨by decide, by decide, by omega⟩, by omega, by decide, kt_nil, kt_con.none (fun j hj => by rcases Nat.lt_or_ge j k with h | h; exact hz j h; exact hz2 j hj (by omega))⟩) hP hD hS (lv_sub hl [0, 1, 2, 3, 4] rfl)
    obtain ⟨i, lf, cz, g, o2⟩ := u
    have hP : va_P D vwCl [(mx, .inr (11, [.int ml, .int mw, .ref ms, .int mgl, .int mhd, .int mre, .int mag, .int mkt, .int mho, .int mpc, .int t_9, .int mki, .ref mk, .ref ma, .ref mo, .ref mg, .ref mm, .ref mt, .int mdn, .int mun, .ref mn, .int mtk, .ref me, .ref mq, .int msv, .ref mwo, .ref md, .ref mf, .ref mr])), (ma, .inl (cI, 40, .inl g)), (mo, .inl (cI, 81, .inl o2)), (mg, .inl (cI, 81, .inl fr)), (mk, .inl (cI, 40, .inl fk))] H := hP
    have hD : va_D A [(mx, .inr (11, [.int ml, .int mw, .ref ms, .int mgl, .int mhd, .int mre, .int mag, .int mkt, .int mho, .int mpc, .int t_9, .int mki, .ref mk, .ref ma, .ref mo, .ref mg, .ref mm, .ref mt, .int mdn, .int mun, .ref mn, .int mtk, .ref me, .ref mq, .int msv, .ref mwo, .ref md, .ref mf, .ref mr])), (ma, .inl (cI, 40, .inl g)), (mo, .inl (cI, 81, .inl o2)), (mg, .inl (cI, 81, .inl fr)), (mk, .inl (cI, 40, .inl fk))] := hD
    have hl : lv_has ls 6 [(4, .int (nI i)), (3, .int cz), (2, .int lf), (0, .ref mx), (1, .int p1)] := hl
    have hI : (i ≤ 40 ∧ 40 < i + (n_42 + 1) ∧ i ≤ P_) ∧ 0 ≤ lf.toInt ∧ (0 ≤ cz.toInt ∧ cz.toInt ≤ 1) ∧ kt_r g i (-1) (ml.toInt * mw.toInt - 1) ∧ kt_con o2 g i := hI
    obtain ⟨hib, hlf, hcz, hga, hco⟩ := hI
    have hi0 := kt_nI (n := i) (by omega)
    refine lv_iload hx hb dX11_setUp_42 (lv_at hl 0 rfl) ?_
    refine lv_aload_n hx hb dX11_setUp_44 rfl (lv_at hl 3 rfl) ?_
    refine va_get (D := D) (ci := 11) (C := RX11) (T := TX11) (N := 29) hx hb hts iw_X11_setUp_X11 hown hK hP 0 rfl rfl 9 (by decide) (hts (.fieldLink RX11 103 "KingTableModel" "pieces" "I") (List.mem_cons_of_mem _ (List.mem_append_left _ (List.mem_cons_of_mem _ (List.mem_cons_of_mem _ (List.Mem.head _)))))) (fun _ h9 => h9) rfl dX11_setUp_45 ?_
    refine lv_icmp_ge (tgt := 153) hx hb dX11_setUp_48 (by decide) (fun c_48 => ?_) (fun c_48 => ?_)
    · have d_48 := c_48
      simp only [kt_lt, kt_le, kt_eq, kt_c0, kt_c1, kt_c2, kt_c3, kt_c4, kt_c8, kt_c9, kt_cm1, kt_c81, kt_c40, kt_c7, kt_c5, kt_c6, kt_c512, kt_c10, kt_c10000] at d_48
      refine lv_iload_n hx hb dX11_setUp_153 rfl (lv_at hl 1 rfl) ?_
      exact kt_rz (g, o2, t_9) hx hb hr hlk hS dX11_setUp_154 hP hD (by show (0 ≤ cz.toInt ∧ cz.toInt ≤ 1) ∧ kt_r g P_ (-1) (ml.toInt * mw.toInt - 1) ∧ kt_con o2 g P_ ∧ 0 ≤ t_9.toInt ∧ t_9.toInt ≤ 1; (have hiP : i = P_ := by omega); (rw [hiP] at hga hco); exact ⟨hcz, hga, hco, by omega⟩) (by exact kt_z hcz.1 hcz.2)
    · have d_48 := c_48
      simp only [kt_lt, kt_le, kt_eq, kt_c0, kt_c1, kt_c2, kt_c3, kt_c4, kt_c8, kt_c9, kt_cm1, kt_c81, kt_c40, kt_c7, kt_c5, kt_c6, kt_c512, kt_c10, kt_c10000] at d_48
      refine lv_iload_n hx hb dX11_setUp_51 rfl (lv_at hl 2 rfl) ?_
      refine lv_aload_n hx hb dX11_setUp_52 rfl (lv_at hl 3 rfl) ?_
      refine kt_pi (wc := [(mx, .inr (11, [.int ml, .int mw, .ref ms, .int mgl, .int mhd, .int mre, .int mag, .int mkt, .int mho, .int mpc, .int t_9, .int mki, .ref mk, .ref ma, .ref mo, .ref mg, .ref mm, .ref mt, .int mdn, .int mun, .ref mn, .int mtk, .ref me, .ref mq, .int msv, .ref mwo, .ref md, .ref mf, .ref mr]))]) [0] hP hD hS hA rfl (by decide) (fun hPc hDc => va_runV (As := []) (rest := [.int lf]) ⟨hx, hb, hml, hown, hts⟩ (c_X11_fields l D cI cZ cB H.size mx ms mk ma mo mg mm mt mn me mq mwo md mf mr ml mw mgl mhd mre mag mkt mho mpc t_9 mki mdn mun mtk msv (by first | assumption | omega | rfl | decide) (by first | assumption | omega | rfl | decide)) (cwV 0 hts gX11_setUp_X11_fields rfl rfl rfl (by decide +kernel) ⟨Nat.le_of_ble_eq_true rfl, Nat.le_of_ble_eq_true rfl⟩) (kt_preV hN hK hPc hDc 0 (ci := 11) (q := (RX11, TX11, 29)) rfl rfl) rfl rfl hl.1 rfl (lv_room (Nat.le_of_ble_eq_true rfl)) dX11_setUp_53 ⟨Nat.le_of_ble_eq_true rfl, Nat.le_of_ble_eq_true rfl⟩) (fun r_53 _ H locs hw_53 hP hS => ?_)
      refine lv_iconst (v := 1) hx hb dX11_setUp_56 (by decide) ?_
      refine lv_iadd hx hb dX11_setUp_57 ?_
      refine lv_topi (fun t_57 et_57 => ?_)
      first | have hk_57 := kt_addx et_57 (by first | omega | (simp only [kt_c0, kt_c1, kt_c2, kt_c3, kt_c4, kt_c8, kt_c9, kt_cm1, kt_c81, kt_c40, kt_c7, kt_c5, kt_c6, kt_c512, kt_c10, kt_c10000]; omega)) (by first | omega | (simp only [kt_c0, kt_c1, kt_c2, kt_c3, kt_c4, kt_c8, kt_c9, kt_cm1, kt_c81, kt_c40, kt_c7, kt_c5, kt_c6, kt_c512, kt_c10, kt_c10000]; omega)) | obtain ⟨k_57, hk_57, hm_57, hM_57⟩ := kt_addk et_57
      try simp only [kt_c0, kt_c1, kt_c2, kt_c3, kt_c4, kt_c8, kt_c9, kt_cm1, kt_c81, kt_c40, kt_c7, kt_c5, kt_c6, kt_c512, kt_c10, kt_c10000] at hk_57
      refine lv_irem hx hb dX11_setUp_58 (by intro h; have h5 := congrArg Int32.toInt h; rw [kt_c0] at h5; omega) ?_
      refine lv_topi (fun t_58 et_58 => ?_)
      have hk_58 := kt_remk et_58 (by omega) (by omega)
      have hmd0 := Int.emod_nonneg lf.toInt (show t_57.toInt ≠ 0 by omega)
      have hmd1 := Int.emod_lt_of_pos lf.toInt (show 0 < t_57.toInt by omega)
      refine lv_istore (lv' := [(5, .int t_58), (4, .int (nI i)), (3, .int cz), (2, .int lf), (0, .ref mx), (1, .int p1)]) hx hb dX11_setUp_59 hl (by decide) rfl (fun ls hl => ?_)
      refine lv_iload_n hx hb dX11_setUp_61 rfl (lv_at hl 3 rfl) ?_
      refine lv_aload_n hx hb dX11_setUp_62 rfl (lv_at hl 4 rfl) ?_
      refine kt_pi (wc := [(mx, .inr (11, [.int ml, .int mw, .ref ms, .int mgl, .int mhd, .int mre, .int mag, .int mkt, .int mho, .int mpc, .int t_9, .int mki, .ref mk, .ref ma, .ref mo, .ref mg, .ref mm, .ref mt, .int mdn, .int mun, .ref mn, .int mtk, .ref me, .ref mq, .int msv, .ref mwo, .ref md, .ref mf, .ref mr]))]) [0] hP hD hS hA rfl (by decide) (fun hPc hDc => va_runV (As := []) (rest := [.int lf]) ⟨hx, hb, hml, hown, hts⟩ (c_X11_fields l D cI cZ cB H.size mx ms mk ma mo mg mm mt mn me mq mwo md mf mr ml mw mgl mhd mre mag mkt mho mpc t_9 mki mdn mun mtk msv (by first | assumption | omega | rfl | decide) (by first | assumption | omega | rfl | decide)) (cwV 0 hts gX11_setUp_X11_fields rfl rfl rfl (by decide +kernel) ⟨Nat.le_of_ble_eq_true rfl, Nat.le_of_ble_eq_true rfl⟩) (kt_preV hN hK hPc hDc 0 (ci := 11) (q := (RX11, TX11, 29)) rfl rfl) rfl rfl hl.1 rfl (lv_room (Nat.le_of_ble_eq_true rfl)) dX11_setUp_63 ⟨Nat.le_of_ble_eq_true rfl, Nat.le_of_ble_eq_true rfl⟩) (fun r_63 _ H locs hw_63 hP hS => ?_)
      refine lv_iconst (v := 1) hx hb dX11_setUp_66 (by decide) ?_
      refine lv_iadd hx hb dX11_setUp_67 ?_
      refine lv_topi (fun t_67 et_67 => ?_)
      first | have hk_67 := kt_addx et_67 (by first | omega | (simp only [kt_c0, kt_c1, kt_c2, kt_c3, kt_c4, kt_c8, kt_c9, kt_cm1, kt_c81, kt_c40, kt_c7, kt_c5, kt_c6, kt_c512, kt_c10, kt_c10000]; omega)) (by first | omega | (simp only [kt_c0, kt_c1, kt_c2, kt_c3, kt_c4, kt_c8, kt_c9, kt_cm1, kt_c81, kt_c40, kt_c7, kt_c5, kt_c6, kt_c512, kt_c10, kt_c10000]; omega)) | obtain ⟨k_67, hk_67, hm_67, hM_67⟩ := kt_addk et_67
      try simp only [kt_c0, kt_c1, kt_c2, kt_c3, kt_c4, kt_c8, kt_c9, kt_cm1, kt_c81, kt_c40, kt_c7, kt_c5, kt_c6, kt_c512, kt_c10, kt_c10000] at hk_67
      refine lv_idiv hx hb dX11_setUp_68 (by intro h; have h5 := congrArg Int32.toInt h; rw [kt_c0] at h5; omega) ?_
      refine lv_topi (fun t_68 et_68 => ?_)
      have hk_68 := kt_divk et_68 (by omega) (by omega)
      have hdv0 : 0 ≤ lf.toInt / t_67.toInt := Int.ediv_nonneg hlf (by omega)
      refine lv_istore_n (lv' := [(2, .int t_68), (5, .int t_58), (4, .int (nI i)), (3, .int cz), (0, .ref mx), (1, .int p1)]) hx hb dX11_setUp_69 rfl hl (by decide) rfl (fun ls hl => ?_)
      refine lv_aload_n hx hb dX11_setUp_70 rfl (lv_at hl 4 rfl) ?_
      refine va_get (D := D) (ci := 11) (C := RX11) (T := TX11) (N := 29) hx hb hts iw_X11_setUp_X11 hown hK hP 0 rfl rfl 13 (by decide) (hts (.fieldLink RX11 30 "KingTableModel" "at" "[I") (List.mem_cons_of_mem _ (List.mem_append_left _ (List.mem_cons_of_mem _ (List.mem_cons_of_mem _ (List.mem_cons_of_mem _ (List.Mem.head _))))))) (fun _ h9 => h9) rfl dX11_setUp_71 ?_
      refine lv_iload hx hb dX11_setUp_74 (lv_at hl 2 rfl) ?_
      refine lv_iload hx hb dX11_setUp_76 (lv_at hl 1 rfl) ?_
      refine lv_aload_n hx hb dX11_setUp_78 rfl (lv_at hl 4 rfl) ?_
      refine kt_pi (wc := [(mx, .inr (11, [.int ml, .int mw, .ref ms, .int mgl, .int mhd, .int mre, .int mag, .int mkt, .int mho, .int mpc, .int t_9, .int mki, .ref mk, .ref ma, .ref mo, .ref mg, .ref mm, .ref mt, .int mdn, .int mun, .ref mn, .int mtk, .ref me, .ref mq, .int msv, .ref mwo, .ref md, .ref mf, .ref mr]))]) [0] hP hD hS hA rfl (by decide) (fun hPc hDc => va_runV (As := []) (rest := [.int t_58, .int (nI i), .ref ma]) ⟨hx, hb, hml, hown, hts⟩ (c_X11_fields l D cI cZ cB H.size mx ms mk ma mo mg mm mt mn me mq mwo md mf mr ml mw mgl mhd mre mag mkt mho mpc t_9 mki mdn mun mtk msv (by first | assumption | omega | rfl | decide) (by first | assumption | omega | rfl | decide)) (cwV 0 hts gX11_setUp_X11_fields rfl rfl rfl (by decide +kernel) ⟨Nat.le_of_ble_eq_true rfl, Nat.le_of_ble_eq_true rfl⟩) (kt_preV hN hK hPc hDc 0 (ci := 11) (q := (RX11, TX11, 29)) rfl rfl) rfl rfl hl.1 rfl (lv_room (Nat.le_of_ble_eq_true rfl)) dX11_setUp_79 ⟨Nat.le_of_ble_eq_true rfl, Nat.le_of_ble_eq_true rfl⟩) (fun r_79 _ H locs hw_79 hP hS => ?_)
      refine lv_icmp_ne (tgt := 89) hx hb dX11_setUp_82 (by decide) (fun c_82 => ?_) (fun c_82 => ?_)
      · have d_82 := c_82
        simp only [kt_lt, kt_le, kt_eq, kt_c0, kt_c1, kt_c2, kt_c3, kt_c4, kt_c8, kt_c9, kt_cm1, kt_c81, kt_c40, kt_c7, kt_c5, kt_c6, kt_c512, kt_c10, kt_c10000] at d_82
        refine lv_iload hx hb dX11_setUp_89 (lv_at hl 1 rfl) ?_
        have hi_1 : vp_in (nI i) 40 := by exact kt_in (by omega) (by omega)
        refine va_iast hx hb hK hP hD hS 1 0 rfl rfl hi_1 dX11_setUp_91 (fun H locs hP hD hS => ?_)
        have hP : va_P D vwCl [(mx, .inr (11, [.int ml, .int mw, .ref ms, .int mgl, .int mhd, .int mre, .int mag, .int mkt, .int mho, .int mpc, .int t_9, .int mki, .ref mk, .ref ma, .ref mo, .ref mg, .ref mm, .ref mt, .int mdn, .int mun, .ref mn, .int mtk, .ref me, .ref mq, .int msv, .ref mwo, .ref md, .ref mf, .ref mr])), (ma, .inl (cI, 40, .inl (upd g (nI i).toNatClampNeg t_58))), (mo, .inl (cI, 81, .inl o2)), (mg, .inl (cI, 81, .inl fr)), (mk, .inl (cI, 40, .inl fk))] H := hP
        have hD : va_D A [(mx, .inr (11, [.int ml, .int mw, .ref ms, .int mgl, .int mhd, .int mre, .int mag, .int mkt, .int mho, .int mpc, .int t_9, .int mki, .ref mk, .ref ma, .ref mo, .ref mg, .ref mm, .ref mt, .int mdn, .int mun, .ref mn, .int mtk, .ref me, .ref mq, .int msv, .ref mwo, .ref md, .ref mf, .ref mr])), (ma, .inl (cI, 40, .inl (upd g (nI i).toNatClampNeg t_58))), (mo, .inl (cI, 81, .inl o2)), (mg, .inl (cI, 81, .inl fr)), (mk, .inl (cI, 40, .inl fk))] := hD
        refine lv_aload_n hx hb dX11_setUp_92 rfl (lv_at hl 4 rfl) ?_
        refine va_get (D := D) (ci := 11) (C := RX11) (T := TX11) (N := 29) hx hb hts iw_X11_setUp_X11 hown hK hP 0 rfl rfl 13 (by decide) (hts (.fieldLink RX11 30 "KingTableModel" "at" "[I") (List.mem_cons_of_mem _ (List.mem_append_left _ (List.mem_cons_of_mem _ (List.mem_cons_of_mem _ (List.mem_cons_of_mem _ (List.Mem.head _))))))) (fun _ h9 => h9) rfl dX11_setUp_93 ?_
        refine lv_iload hx hb dX11_setUp_96 (lv_at hl 2 rfl) ?_
        have hi_2 : vp_in (nI i) 40 := by exact kt_in (by omega) (by omega)
        refine va_iald hx hb hK hP 1 0 rfl rfl hi_2 dX11_setUp_98 ?_
        refine lv_topi (fun a_98 ea_98 => ?_)
        rw [pk_us] at ea_98
        have he98 := congrArg Int32.toInt ea_98
        try rw [kt_cm1] at he98
        refine lv_iconst (v := (-1)) hx hb dX11_setUp_99 (by decide) ?_
        refine lv_icmp_ne (tgt := 106) hx hb dX11_setUp_100 (by decide) (fun c_100 => ?_) (fun c_100 => ?_)
        · have d_100 := c_100
          simp only [kt_lt, kt_le, kt_eq, kt_c0, kt_c1, kt_c2, kt_c3, kt_c4, kt_c8, kt_c9, kt_cm1, kt_c81, kt_c40, kt_c7, kt_c5, kt_c6, kt_c512, kt_c10, kt_c10000] at d_100
          refine lv_iload_n hx hb dX11_setUp_106 rfl (lv_at hl 3 rfl) ?_
          refine kt_join (σ := Int32) 137 6 (fun u => [(mx, .inr (11, [.int ml, .int mw, .ref ms, .int mgl, .int mhd, .int mre, .int mag, .int mkt, .int mho, .int mpc, .int t_9, .int mki, .ref mk, .ref ma, .ref mo, .ref mg, .ref mm, .ref mt, .int mdn, .int mun, .ref mn, .int mtk, .ref me, .ref mq, .int msv, .ref mwo, .ref md, .ref mf, .ref mr])), (ma, .inl (cI, 40, .inl (upd g (nI i).toNatClampNeg t_58))), (mo, .inl (cI, 81, .inl o2)), (mg, .inl (cI, 81, .inl fr)), (mk, .inl (cI, 40, .inl fk))]) (fun u => [(2, .int t_68), (5, .int t_58), (4, .int (nI i)), (3, .int cz), (0, .ref mx), (1, .int p1)]) (fun u => [.int u]) (fun u => 0 ≤ u.toInt ∧ u.toInt ≤ 1) (D := D) (A := A) (H0 := s.heap) (fun u hI H locs hP hD hS ls hl => ?_) (fun j_137 => ?_)
          · obtain ⟨v, rfl⟩ : ∃ z, z = u := ⟨_, rfl⟩
            have hP : va_P D vwCl [(mx, .inr (11, [.int ml, .int mw, .ref ms, .int mgl, .int mhd, .int mre, .int mag, .int mkt, .int mho, .int mpc, .int t_9, .int mki, .ref mk, .ref ma, .ref mo, .ref mg, .ref mm, .ref mt, .int mdn, .int mun, .ref mn, .int mtk, .ref me, .ref mq, .int msv, .ref mwo, .ref md, .ref mf, .ref mr])), (ma, .inl (cI, 40, .inl (upd g (nI i).toNatClampNeg t_58))), (mo, .inl (cI, 81, .inl o2)), (mg, .inl (cI, 81, .inl fr)), (mk, .inl (cI, 40, .inl fk))] H := hP
            have hD : va_D A [(mx, .inr (11, [.int ml, .int mw, .ref ms, .int mgl, .int mhd, .int mre, .int mag, .int mkt, .int mho, .int mpc, .int t_9, .int mki, .ref mk, .ref ma, .ref mo, .ref mg, .ref mm, .ref mt, .int mdn, .int mun, .ref mn, .int mtk, .ref me, .ref mq, .int msv, .ref mwo, .ref md, .ref mf, .ref mr])), (ma, .inl (cI, 40, .inl (upd g (nI i).toNatClampNeg t_58))), (mo, .inl (cI, 81, .inl o2)), (mg, .inl (cI, 81, .inl fr)), (mk, .inl (cI, 40, .inl fk))] := hD
            have hl : lv_has ls 6 [(2, .int t_68), (5, .int t_58), (4, .int (nI i)), (3, .int cz), (0, .ref mx), (1, .int p1)] := hl
            have hI : 0 ≤ v.toInt ∧ v.toInt ≤ 1 := hI
            have hv := hI
            refine lv_istore_n (lv' := [(3, .int v), (2, .int t_68), (5, .int t_58), (4, .int (nI i)), (0, .ref mx), (1, .int p1)]) hx hb dX11_setUp_137 rfl hl (by decide) rfl (fun ls hl => ?_)
            refine lv_aload_n hx hb dX11_setUp_138 rfl (lv_at hl 4 rfl) ?_
            refine va_get (D := D) (ci := 11) (C := RX11) (T := TX11) (N := 29) hx hb hts iw_X11_setUp_X11 hown hK hP 0 rfl rfl 14 (by decide) (hts (.fieldLink RX11 33 "KingTableModel" "on" "[I") (List.mem_cons_of_mem _ (List.mem_append_left _ (List.mem_cons_of_mem _ (List.Mem.head _))))) (fun _ h9 => h9) rfl dX11_setUp_139 ?_
            refine lv_iload hx hb dX11_setUp_142 (lv_at hl 2 rfl) ?_
            refine lv_iload hx hb dX11_setUp_144 (lv_at hl 3 rfl) ?_
            have hi_3 : vp_in t_58 81 := by exact kt_in (by omega) (by omega)
            refine va_iast hx hb hK hP hD hS 2 0 rfl rfl hi_3 dX11_setUp_146 (fun H locs hP hD hS => ?_)
            have hP : va_P D vwCl [(mx, .inr (11, [.int ml, .int mw, .ref ms, .int mgl, .int mhd, .int mre, .int mag, .int mkt, .int mho, .int mpc, .int t_9, .int mki, .ref mk, .ref ma, .ref mo, .ref mg, .ref mm, .ref mt, .int mdn, .int mun, .ref mn, .int mtk, .ref me, .ref mq, .int msv, .ref mwo, .ref md, .ref mf, .ref mr])), (ma, .inl (cI, 40, .inl (upd g (nI i).toNatClampNeg t_58))), (mo, .inl (cI, 81, .inl (upd o2 t_58.toNatClampNeg (nI i)))), (mg, .inl (cI, 81, .inl fr)), (mk, .inl (cI, 40, .inl fk))] H := hP
            have hD : va_D A [(mx, .inr (11, [.int ml, .int mw, .ref ms, .int mgl, .int mhd, .int mre, .int mag, .int mkt, .int mho, .int mpc, .int t_9, .int mki, .ref mk, .ref ma, .ref mo, .ref mg, .ref mm, .ref mt, .int mdn, .int mun, .ref mn, .int mtk, .ref me, .ref mq, .int msv, .ref mwo, .ref md, .ref mf, .ref mr])), (ma, .inl (cI, 40, .inl (upd g (nI i).toNatClampNeg t_58))), (mo, .inl (cI, 81, .inl (upd o2 t_58.toNatClampNeg (nI i)))), (mg, .inl (cI, 81, .inl fr)), (mk, .inl (cI, 40, .inl fk))] := hD
            refine lv_iinc (v := nI (i + 1)) (lv' := [(4, .int (nI (i + 1))), (3, .int v), (2, .int t_68), (5, .int t_58), (0, .ref mx), (1, .int p1)]) hx hb dX11_setUp_147 hl (k := 3) rfl (nI_1 _) (by decide) rfl (fun ls hl => ?_)
            refine lv_goto (tgt := 42) hx hb dX11_setUp_150 (by decide) ?_
            exact ih_42 ((i + 1), t_68, v, (upd g (nI i).toNatClampNeg t_58), (upd o2 t_58.toNatClampNeg (nI i))) (by show ((i + 1) ≤ 40 ∧ 40 < (i + 1) + n_42 ∧ (i + 1) ≤ P_) ∧ 0 ≤ t_68.toInt ∧ (0 ≤ v.toInt ∧ v.toInt ≤ 1) ∧ kt_r (upd g (nI i).toNatClampNeg t_58) (i + 1) (-1) (ml.toInt * mw.toInt - 1) ∧ kt_con (upd o2 t_58.toNatClampNeg (nI i)) (upd g (nI i).toNatClampNeg t_58) (i + 1); rw [nI_clamp (by omega)]; first | exact ⟨by omega, by omega, by omega, kt_snoc hga (by decide) (by rw [kt_cm1]; omega), hco.skip⟩ | (have e := kt_nIof (x := t_58) (by omega); have h9 := hco.add (F := t_58.toInt.toNat) (by omega); rw [← e] at h9; exact ⟨by omega, by omega, by omega, kt_snoc hga (by omega) (by omega), h9⟩) | (exfalso; omega)) H _ hP hD hS ls (lv_sub hl [0, 1, 2, 4, 5] rfl)
          refine lv_if_eq (tgt := 136) hx hb dX11_setUp_107 (by decide) (fun c_107 => ?_) (fun c_107 => ?_)
          · have d_107 := c_107
            simp only [kt_lt, kt_le, kt_eq, kt_c0, kt_c1, kt_c2, kt_c3, kt_c4, kt_c8, kt_c9, kt_cm1, kt_c81, kt_c40, kt_c7, kt_c5, kt_c6, kt_c512, kt_c10, kt_c10000] at d_107
            refine lv_iconst (v := 0) hx hb dX11_setUp_136 (by decide) ?_
            exact j_137 (0 : Int32) (by show 0 ≤ (0 : Int32).toInt ∧ (0 : Int32).toInt ≤ 1; decide) H _ hP hD hS ls (lv_sub hl [0, 1, 2, 3, 4, 5] rfl)
          · have d_107 := c_107
            simp only [kt_lt, kt_le, kt_eq, kt_c0, kt_c1, kt_c2, kt_c3, kt_c4, kt_c8, kt_c9, kt_cm1, kt_c81, kt_c40, kt_c7, kt_c5, kt_c6, kt_c512, kt_c10, kt_c10000] at d_107
            refine lv_aload_n hx hb dX11_setUp_110 rfl (lv_at hl 4 rfl) ?_
            refine va_get (D := D) (ci := 11) (C := RX11) (T := TX11) (N := 29) hx hb hts iw_X11_setUp_X11 hown hK hP 0 rfl rfl 14 (by decide) (hts (.fieldLink RX11 33 "KingTableModel" "on" "[I") (List.mem_cons_of_mem _ (List.mem_append_left _ (List.mem_cons_of_mem _ (List.Mem.head _))))) (fun _ h9 => h9) rfl dX11_setUp_111 ?_
            refine lv_iload hx hb dX11_setUp_114 (lv_at hl 1 rfl) ?_
            have hi_4 : vp_in t_58 81 := by exact kt_in (by omega) (by omega)
            refine va_iald hx hb hK hP 2 0 rfl rfl hi_4 dX11_setUp_116 ?_
            refine lv_topi (fun a_116 ea_116 => ?_)
            refine lv_iconst (v := (-1)) hx hb dX11_setUp_117 (by decide) ?_
            refine lv_icmp_ne (tgt := 136) hx hb dX11_setUp_118 (by decide) (fun c_118 => ?_) (fun c_118 => ?_)
            · have d_118 := c_118
              simp only [kt_lt, kt_le, kt_eq, kt_c0, kt_c1, kt_c2, kt_c3, kt_c4, kt_c8, kt_c9, kt_cm1, kt_c81, kt_c40, kt_c7, kt_c5, kt_c6, kt_c512, kt_c10, kt_c10000] at d_118
              refine lv_iconst (v := 0) hx hb dX11_setUp_136 (by decide) ?_
              exact j_137 (0 : Int32) (by show 0 ≤ (0 : Int32).toInt ∧ (0 : Int32).toInt ≤ 1; decide) H _ hP hD hS ls (lv_sub hl [0, 1, 2, 3, 4, 5] rfl)
            · have d_118 := c_118
              simp only [kt_lt, kt_le, kt_eq, kt_c0, kt_c1, kt_c2, kt_c3, kt_c4, kt_c8, kt_c9, kt_cm1, kt_c81, kt_c40, kt_c7, kt_c5, kt_c6, kt_c512, kt_c10, kt_c10000] at d_118
              refine lv_aload_n hx hb dX11_setUp_121 rfl (lv_at hl 4 rfl) ?_
              refine lv_iload hx hb dX11_setUp_122 (lv_at hl 1 rfl) ?_
              refine lv_iload hx hb dX11_setUp_124 (lv_at hl 2 rfl) ?_
              refine kt_pi (wc := [(mx, .inr (11, [.int ml, .int mw, .ref ms, .int mgl, .int mhd, .int mre, .int mag, .int mkt, .int mho, .int mpc, .int t_9, .int mki, .ref mk, .ref ma, .ref mo, .ref mg, .ref mm, .ref mt, .int mdn, .int mun, .ref mn, .int mtk, .ref me, .ref mq, .int msv, .ref mwo, .ref md, .ref mf, .ref mr])), (mg, .inl (cI, 81, .inl fr)), (mk, .inl (cI, 40, .inl fk))]) [0, 3, 4] hP hD hS hA rfl (by decide) (fun hPc hDc => va_runV (As := [.int t_58, .int (nI i)]) (rest := []) ⟨hx, hb, hml, hown, hts⟩ (c_X11_bears l D cI cZ cB H.size mx ms mk ma mo mg mm mt mn me mq mwo md mf mr ml mw mgl mhd mre mag mkt mho mpc t_9 mki mdn mun mtk msv fr fk t_58 (nI i) (by first | assumption | omega | rfl | decide) (by first | assumption | omega | rfl | decide)) (cwV 2 hts gX11_setUp_X11_bears rfl rfl rfl (by decide +kernel) ⟨Nat.le_of_ble_eq_true rfl, Nat.le_of_ble_eq_true rfl⟩) (kt_preV hN hK hPc hDc 0 (ci := 11) (q := (RX11, TX11, 29)) rfl rfl) rfl rfl hl.1 rfl (lv_room (Nat.le_of_ble_eq_true rfl)) dX11_setUp_126 ⟨Nat.le_of_ble_eq_true rfl, Nat.le_of_ble_eq_true rfl⟩) (fun r_126 _ H locs hw_126 hP hS => ?_)
              refine lv_if_eq (tgt := 136) hx hb dX11_setUp_129 (by decide) (fun c_129 => ?_) (fun c_129 => ?_)
              · have d_129 := c_129
                simp only [kt_lt, kt_le, kt_eq, kt_c0, kt_c1, kt_c2, kt_c3, kt_c4, kt_c8, kt_c9, kt_cm1, kt_c81, kt_c40, kt_c7, kt_c5, kt_c6, kt_c512, kt_c10, kt_c10000] at d_129
                refine lv_iconst (v := 0) hx hb dX11_setUp_136 (by decide) ?_
                exact j_137 (0 : Int32) (by show 0 ≤ (0 : Int32).toInt ∧ (0 : Int32).toInt ≤ 1; decide) H _ hP hD hS ls (lv_sub hl [0, 1, 2, 3, 4, 5] rfl)
              · have d_129 := c_129
                simp only [kt_lt, kt_le, kt_eq, kt_c0, kt_c1, kt_c2, kt_c3, kt_c4, kt_c8, kt_c9, kt_cm1, kt_c81, kt_c40, kt_c7, kt_c5, kt_c6, kt_c512, kt_c10, kt_c10000] at d_129
                refine lv_iconst (v := 1) hx hb dX11_setUp_132 (by decide) ?_
                refine lv_goto (tgt := 137) hx hb dX11_setUp_133 (by decide) ?_
                exact j_137 (1 : Int32) (by show 0 ≤ (1 : Int32).toInt ∧ (1 : Int32).toInt ≤ 1; decide) H _ hP hD hS ls (lv_sub hl [0, 1, 2, 3, 4, 5] rfl)
        · have d_100 := c_100
          simp only [kt_lt, kt_le, kt_eq, kt_c0, kt_c1, kt_c2, kt_c3, kt_c4, kt_c8, kt_c9, kt_cm1, kt_c81, kt_c40, kt_c7, kt_c5, kt_c6, kt_c512, kt_c10, kt_c10000] at d_100
          refine lv_goto (tgt := 147) hx hb dX11_setUp_103 (by decide) ?_
          refine lv_iinc (v := nI (i + 1)) (lv' := [(4, .int (nI (i + 1))), (2, .int t_68), (5, .int t_58), (3, .int cz), (0, .ref mx), (1, .int p1)]) hx hb dX11_setUp_147 hl (k := 2) rfl (nI_1 _) (by decide) rfl (fun ls hl => ?_)
          refine lv_goto (tgt := 42) hx hb dX11_setUp_150 (by decide) ?_
          exact ih_42 ((i + 1), t_68, cz, (upd g (nI i).toNatClampNeg t_58), o2) (by show ((i + 1) ≤ 40 ∧ 40 < (i + 1) + n_42 ∧ (i + 1) ≤ P_) ∧ 0 ≤ t_68.toInt ∧ (0 ≤ cz.toInt ∧ cz.toInt ≤ 1) ∧ kt_r (upd g (nI i).toNatClampNeg t_58) (i + 1) (-1) (ml.toInt * mw.toInt - 1) ∧ kt_con o2 (upd g (nI i).toNatClampNeg t_58) (i + 1); rw [nI_clamp (by omega)]; first | exact ⟨by omega, by omega, by omega, kt_snoc hga (by decide) (by rw [kt_cm1]; omega), hco.skip⟩ | (have e := kt_nIof (x := t_58) (by omega); have h9 := hco.add (F := t_58.toInt.toNat) (by omega); rw [← e] at h9; exact ⟨by omega, by omega, by omega, kt_snoc hga (by omega) (by omega), h9⟩) | (exfalso; omega)) H _ hP hD hS ls (lv_sub hl [0, 3, 1, 4, 5] rfl)
      · have d_82 := c_82
        simp only [kt_lt, kt_le, kt_eq, kt_c0, kt_c1, kt_c2, kt_c3, kt_c4, kt_c8, kt_c9, kt_cm1, kt_c81, kt_c40, kt_c7, kt_c5, kt_c6, kt_c512, kt_c10, kt_c10000] at d_82
        refine lv_iconst (v := (-1)) hx hb dX11_setUp_85 (by decide) ?_
        refine lv_goto (tgt := 91) hx hb dX11_setUp_86 (by decide) ?_
        have hi_5 : vp_in (nI i) 40 := by exact kt_in (by omega) (by omega)
        refine va_iast hx hb hK hP hD hS 1 0 rfl rfl hi_5 dX11_setUp_91 (fun H locs hP hD hS => ?_)
        have hP : va_P D vwCl [(mx, .inr (11, [.int ml, .int mw, .ref ms, .int mgl, .int mhd, .int mre, .int mag, .int mkt, .int mho, .int mpc, .int t_9, .int mki, .ref mk, .ref ma, .ref mo, .ref mg, .ref mm, .ref mt, .int mdn, .int mun, .ref mn, .int mtk, .ref me, .ref mq, .int msv, .ref mwo, .ref md, .ref mf, .ref mr])), (ma, .inl (cI, 40, .inl (upd g (nI i).toNatClampNeg (-1)))), (mo, .inl (cI, 81, .inl o2)), (mg, .inl (cI, 81, .inl fr)), (mk, .inl (cI, 40, .inl fk))] H := hP
        have hD : va_D A [(mx, .inr (11, [.int ml, .int mw, .ref ms, .int mgl, .int mhd, .int mre, .int mag, .int mkt, .int mho, .int mpc, .int t_9, .int mki, .ref mk, .ref ma, .ref mo, .ref mg, .ref mm, .ref mt, .int mdn, .int mun, .ref mn, .int mtk, .ref me, .ref mq, .int msv, .ref mwo, .ref md, .ref mf, .ref mr])), (ma, .inl (cI, 40, .inl (upd g (nI i).toNatClampNeg (-1)))), (mo, .inl (cI, 81, .inl o2)), (mg, .inl (cI, 81, .inl fr)), (mk, .inl (cI, 40, .inl fk))] := hD
        refine lv_aload_n hx hb dX11_setUp_92 rfl (lv_at hl 4 rfl) ?_
        refine va_get (D := D) (ci := 11) (C := RX11) (T := TX11) (N := 29) hx hb hts iw_X11_setUp_X11 hown hK hP 0 rfl rfl 13 (by decide) (hts (.fieldLink RX11 30 "KingTableModel" "at" "[I") (List.mem_cons_of_mem _ (List.mem_append_left _ (List.mem_cons_of_mem _ (List.mem_cons_of_mem _ (List.mem_cons_of_mem _ (List.Mem.head _))))))) (fun _ h9 => h9) rfl dX11_setUp_93 ?_
        refine lv_iload hx hb dX11_setUp_96 (lv_at hl 2 rfl) ?_
        have hi_6 : vp_in (nI i) 40 := by exact kt_in (by omega) (by omega)
        refine va_iald hx hb hK hP 1 0 rfl rfl hi_6 dX11_setUp_98 ?_
        refine lv_topi (fun a_98 ea_98 => ?_)
        rw [pk_us] at ea_98
        have he98 := congrArg Int32.toInt ea_98
        try rw [kt_cm1] at he98
        refine lv_iconst (v := (-1)) hx hb dX11_setUp_99 (by decide) ?_
        refine lv_icmp_ne (tgt := 106) hx hb dX11_setUp_100 (by decide) (fun c_100 => ?_) (fun c_100 => ?_)
        · have d_100 := c_100
          simp only [kt_lt, kt_le, kt_eq, kt_c0, kt_c1, kt_c2, kt_c3, kt_c4, kt_c8, kt_c9, kt_cm1, kt_c81, kt_c40, kt_c7, kt_c5, kt_c6, kt_c512, kt_c10, kt_c10000] at d_100
          refine lv_iload_n hx hb dX11_setUp_106 rfl (lv_at hl 3 rfl) ?_
          refine kt_join (σ := Int32) 137 6 (fun u => [(mx, .inr (11, [.int ml, .int mw, .ref ms, .int mgl, .int mhd, .int mre, .int mag, .int mkt, .int mho, .int mpc, .int t_9, .int mki, .ref mk, .ref ma, .ref mo, .ref mg, .ref mm, .ref mt, .int mdn, .int mun, .ref mn, .int mtk, .ref me, .ref mq, .int msv, .ref mwo, .ref md, .ref mf, .ref mr])), (ma, .inl (cI, 40, .inl (upd g (nI i).toNatClampNeg (-1)))), (mo, .inl (cI, 81, .inl o2)), (mg, .inl (cI, 81, .inl fr)), (mk, .inl (cI, 40, .inl fk))]) (fun u => [(2, .int t_68), (5, .int t_58), (4, .int (nI i)), (3, .int cz), (0, .ref mx), (1, .int p1)]) (fun u => [.int u]) (fun u => 0 ≤ u.toInt ∧ u.toInt ≤ 1) (D := D) (A := A) (H0 := s.heap) (fun u hI H locs hP hD hS ls hl => ?_) (fun j_137 => ?_)
          · obtain ⟨v, rfl⟩ : ∃ z, z = u := ⟨_, rfl⟩
            have hP : va_P D vwCl [(mx, .inr (11, [.int ml, .int mw, .ref ms, .int mgl, .int mhd, .int mre, .int mag, .int mkt, .int mho, .int mpc, .int t_9, .int mki, .ref mk, .ref ma, .ref mo, .ref mg, .ref mm, .ref mt, .int mdn, .int mun, .ref mn, .int mtk, .ref me, .ref mq, .int msv, .ref mwo, .ref md, .ref mf, .ref mr])), (ma, .inl (cI, 40, .inl (upd g (nI i).toNatClampNeg (-1)))), (mo, .inl (cI, 81, .inl o2)), (mg, .inl (cI, 81, .inl fr)), (mk, .inl (cI, 40, .inl fk))] H := hP
            have hD : va_D A [(mx, .inr (11, [.int ml, .int mw, .ref ms, .int mgl, .int mhd, .int mre, .int mag, .int mkt, .int mho, .int mpc, .int t_9, .int mki, .ref mk, .ref ma, .ref mo, .ref mg, .ref mm, .ref mt, .int mdn, .int mun, .ref mn, .int mtk, .ref me, .ref mq, .int msv, .ref mwo, .ref md, .ref mf, .ref mr])), (ma, .inl (cI, 40, .inl (upd g (nI i).toNatClampNeg (-1)))), (mo, .inl (cI, 81, .inl o2)), (mg, .inl (cI, 81, .inl fr)), (mk, .inl (cI, 40, .inl fk))] := hD
            have hl : lv_has ls 6 [(2, .int t_68), (5, .int t_58), (4, .int (nI i)), (3, .int cz), (0, .ref mx), (1, .int p1)] := hl
            have hI : 0 ≤ v.toInt ∧ v.toInt ≤ 1 := hI
            have hv := hI
            refine lv_istore_n (lv' := [(3, .int v), (2, .int t_68), (5, .int t_58), (4, .int (nI i)), (0, .ref mx), (1, .int p1)]) hx hb dX11_setUp_137 rfl hl (by decide) rfl (fun ls hl => ?_)
            refine lv_aload_n hx hb dX11_setUp_138 rfl (lv_at hl 4 rfl) ?_
            refine va_get (D := D) (ci := 11) (C := RX11) (T := TX11) (N := 29) hx hb hts iw_X11_setUp_X11 hown hK hP 0 rfl rfl 14 (by decide) (hts (.fieldLink RX11 33 "KingTableModel" "on" "[I") (List.mem_cons_of_mem _ (List.mem_append_left _ (List.mem_cons_of_mem _ (List.Mem.head _))))) (fun _ h9 => h9) rfl dX11_setUp_139 ?_
            refine lv_iload hx hb dX11_setUp_142 (lv_at hl 2 rfl) ?_
            refine lv_iload hx hb dX11_setUp_144 (lv_at hl 3 rfl) ?_
            have hi_7 : vp_in t_58 81 := by exact kt_in (by omega) (by omega)
            refine va_iast hx hb hK hP hD hS 2 0 rfl rfl hi_7 dX11_setUp_146 (fun H locs hP hD hS => ?_)
            have hP : va_P D vwCl [(mx, .inr (11, [.int ml, .int mw, .ref ms, .int mgl, .int mhd, .int mre, .int mag, .int mkt, .int mho, .int mpc, .int t_9, .int mki, .ref mk, .ref ma, .ref mo, .ref mg, .ref mm, .ref mt, .int mdn, .int mun, .ref mn, .int mtk, .ref me, .ref mq, .int msv, .ref mwo, .ref md, .ref mf, .ref mr])), (ma, .inl (cI, 40, .inl (upd g (nI i).toNatClampNeg (-1)))), (mo, .inl (cI, 81, .inl (upd o2 t_58.toNatClampNeg (nI i)))), (mg, .inl (cI, 81, .inl fr)), (mk, .inl (cI, 40, .inl fk))] H := hP
            have hD : va_D A [(mx, .inr (11, [.int ml, .int mw, .ref ms, .int mgl, .int mhd, .int mre, .int mag, .int mkt, .int mho, .int mpc, .int t_9, .int mki, .ref mk, .ref ma, .ref mo, .ref mg, .ref mm, .ref mt, .int mdn, .int mun, .ref mn, .int mtk, .ref me, .ref mq, .int msv, .ref mwo, .ref md, .ref mf, .ref mr])), (ma, .inl (cI, 40, .inl (upd g (nI i).toNatClampNeg (-1)))), (mo, .inl (cI, 81, .inl (upd o2 t_58.toNatClampNeg (nI i)))), (mg, .inl (cI, 81, .inl fr)), (mk, .inl (cI, 40, .inl fk))] := hD
            refine lv_iinc (v := nI (i + 1)) (lv' := [(4, .int (nI (i + 1))), (3, .int v), (2, .int t_68), (5, .int t_58), (0, .ref mx), (1, .int p1)]) hx hb dX11_setUp_147 hl (k := 3) rfl (nI_1 _) (by decide) rfl (fun ls hl => ?_)
            refine lv_goto (tgt := 42) hx hb dX11_setUp_150 (by decide) ?_
            exact ih_42 ((i + 1), t_68, v, (upd g (nI i).toNatClampNeg (-1)), (upd o2 t_58.toNatClampNeg (nI i))) (by show ((i + 1) ≤ 40 ∧ 40 < (i + 1) + n_42 ∧ (i + 1) ≤ P_) ∧ 0 ≤ t_68.toInt ∧ (0 ≤ v.toInt ∧ v.toInt ≤ 1) ∧ kt_r (upd g (nI i).toNatClampNeg (-1)) (i + 1) (-1) (ml.toInt * mw.toInt - 1) ∧ kt_con (upd o2 t_58.toNatClampNeg (nI i)) (upd g (nI i).toNatClampNeg (-1)) (i + 1); rw [nI_clamp (by omega)]; first | exact ⟨by omega, by omega, by omega, kt_snoc hga (by decide) (by rw [kt_cm1]; omega), hco.skip⟩ | (have e := kt_nIof (x := t_58) (by omega); have h9 := hco.add (F := t_58.toInt.toNat) (by omega); rw [← e] at h9; exact ⟨by omega, by omega, by omega, kt_snoc hga (by omega) (by omega), h9⟩) | (exfalso; omega)) H _ hP hD hS ls (lv_sub hl [0, 1, 2, 4, 5] rfl)
          refine lv_if_eq (tgt := 136) hx hb dX11_setUp_107 (by decide) (fun c_107 => ?_) (fun c_107 => ?_)
          · have d_107 := c_107
            simp only [kt_lt, kt_le, kt_eq, kt_c0, kt_c1, kt_c2, kt_c3, kt_c4, kt_c8, kt_c9, kt_cm1, kt_c81, kt_c40, kt_c7, kt_c5, kt_c6, kt_c512, kt_c10, kt_c10000] at d_107
            refine lv_iconst (v := 0) hx hb dX11_setUp_136 (by decide) ?_
            exact j_137 (0 : Int32) (by show 0 ≤ (0 : Int32).toInt ∧ (0 : Int32).toInt ≤ 1; decide) H _ hP hD hS ls (lv_sub hl [0, 1, 2, 3, 4, 5] rfl)
          · have d_107 := c_107
            simp only [kt_lt, kt_le, kt_eq, kt_c0, kt_c1, kt_c2, kt_c3, kt_c4, kt_c8, kt_c9, kt_cm1, kt_c81, kt_c40, kt_c7, kt_c5, kt_c6, kt_c512, kt_c10, kt_c10000] at d_107
            refine lv_aload_n hx hb dX11_setUp_110 rfl (lv_at hl 4 rfl) ?_
            refine va_get (D := D) (ci := 11) (C := RX11) (T := TX11) (N := 29) hx hb hts iw_X11_setUp_X11 hown hK hP 0 rfl rfl 14 (by decide) (hts (.fieldLink RX11 33 "KingTableModel" "on" "[I") (List.mem_cons_of_mem _ (List.mem_append_left _ (List.mem_cons_of_mem _ (List.Mem.head _))))) (fun _ h9 => h9) rfl dX11_setUp_111 ?_
            refine lv_iload hx hb dX11_setUp_114 (lv_at hl 1 rfl) ?_
            have hi_8 : vp_in t_58 81 := by exact kt_in (by omega) (by omega)
            refine va_iald hx hb hK hP 2 0 rfl rfl hi_8 dX11_setUp_116 ?_
            refine lv_topi (fun a_116 ea_116 => ?_)
            refine lv_iconst (v := (-1)) hx hb dX11_setUp_117 (by decide) ?_
            refine lv_icmp_ne (tgt := 136) hx hb dX11_setUp_118 (by decide) (fun c_118 => ?_) (fun c_118 => ?_)
            · have d_118 := c_118
              simp only [kt_lt, kt_le, kt_eq, kt_c0, kt_c1, kt_c2, kt_c3, kt_c4, kt_c8, kt_c9, kt_cm1, kt_c81, kt_c40, kt_c7, kt_c5, kt_c6, kt_c512, kt_c10, kt_c10000] at d_118
              refine lv_iconst (v := 0) hx hb dX11_setUp_136 (by decide) ?_
              exact j_137 (0 : Int32) (by show 0 ≤ (0 : Int32).toInt ∧ (0 : Int32).toInt ≤ 1; decide) H _ hP hD hS ls (lv_sub hl [0, 1, 2, 3, 4, 5] rfl)
            · have d_118 := c_118
              simp only [kt_lt, kt_le, kt_eq, kt_c0, kt_c1, kt_c2, kt_c3, kt_c4, kt_c8, kt_c9, kt_cm1, kt_c81, kt_c40, kt_c7, kt_c5, kt_c6, kt_c512, kt_c10, kt_c10000] at d_118
              refine lv_aload_n hx hb dX11_setUp_121 rfl (lv_at hl 4 rfl) ?_
              refine lv_iload hx hb dX11_setUp_122 (lv_at hl 1 rfl) ?_
              refine lv_iload hx hb dX11_setUp_124 (lv_at hl 2 rfl) ?_
              refine kt_pi (wc := [(mx, .inr (11, [.int ml, .int mw, .ref ms, .int mgl, .int mhd, .int mre, .int mag, .int mkt, .int mho, .int mpc, .int t_9, .int mki, .ref mk, .ref ma, .ref mo, .ref mg, .ref mm, .ref mt, .int mdn, .int mun, .ref mn, .int mtk, .ref me, .ref mq, .int msv, .ref mwo, .ref md, .ref mf, .ref mr])), (mg, .inl (cI, 81, .inl fr)), (mk, .inl (cI, 40, .inl fk))]) [0, 3, 4] hP hD hS hA rfl (by decide) (fun hPc hDc => va_runV (As := [.int t_58, .int (nI i)]) (rest := []) ⟨hx, hb, hml, hown, hts⟩ (c_X11_bears l D cI cZ cB H.size mx ms mk ma mo mg mm mt mn me mq mwo md mf mr ml mw mgl mhd mre mag mkt mho mpc t_9 mki mdn mun mtk msv fr fk t_58 (nI i) (by first | assumption | omega | rfl | decide) (by first | assumption | omega | rfl | decide)) (cwV 2 hts gX11_setUp_X11_bears rfl rfl rfl (by decide +kernel) ⟨Nat.le_of_ble_eq_true rfl, Nat.le_of_ble_eq_true rfl⟩) (kt_preV hN hK hPc hDc 0 (ci := 11) (q := (RX11, TX11, 29)) rfl rfl) rfl rfl hl.1 rfl (lv_room (Nat.le_of_ble_eq_true rfl)) dX11_setUp_126 ⟨Nat.le_of_ble_eq_true rfl, Nat.le_of_ble_eq_true rfl⟩) (fun r_126 _ H locs hw_126 hP hS => ?_)
              refine lv_if_eq (tgt := 136) hx hb dX11_setUp_129 (by decide) (fun c_129 => ?_) (fun c_129 => ?_)
              · have d_129 := c_129
                simp only [kt_lt, kt_le, kt_eq, kt_c0, kt_c1, kt_c2, kt_c3, kt_c4, kt_c8, kt_c9, kt_cm1, kt_c81, kt_c40, kt_c7, kt_c5, kt_c6, kt_c512, kt_c10, kt_c10000] at d_129
                refine lv_iconst (v := 0) hx hb dX11_setUp_136 (by decide) ?_
                exact j_137 (0 : Int32) (by show 0 ≤ (0 : Int32).toInt ∧ (0 : Int32).toInt ≤ 1; decide) H _ hP hD hS ls (lv_sub hl [0, 1, 2, 3, 4, 5] rfl)
              · have d_129 := c_129
                simp only [kt_lt, kt_le, kt_eq, kt_c0, kt_c1, kt_c2, kt_c3, kt_c4, kt_c8, kt_c9, kt_cm1, kt_c81, kt_c40, kt_c7, kt_c5, kt_c6, kt_c512, kt_c10, kt_c10000] at d_129
                refine lv_iconst (v := 1) hx hb dX11_setUp_132 (by decide) ?_
                refine lv_goto (tgt := 137) hx hb dX11_setUp_133 (by decide) ?_
                exact j_137 (1 : Int32) (by show 0 ≤ (1 : Int32).toInt ∧ (1 : Int32).toInt ≤ 1; decide) H _ hP hD hS ls (lv_sub hl [0, 1, 2, 3, 4, 5] rfl)
        · have d_100 := c_100
          simp only [kt_lt, kt_le, kt_eq, kt_c0, kt_c1, kt_c2, kt_c3, kt_c4, kt_c8, kt_c9, kt_cm1, kt_c81, kt_c40, kt_c7, kt_c5, kt_c6, kt_c512, kt_c10, kt_c10000] at d_100
          refine lv_goto (tgt := 147) hx hb dX11_setUp_103 (by decide) ?_
          refine lv_iinc (v := nI (i + 1)) (lv' := [(4, .int (nI (i + 1))), (2, .int t_68), (5, .int t_58), (3, .int cz), (0, .ref mx), (1, .int p1)]) hx hb dX11_setUp_147 hl (k := 2) rfl (nI_1 _) (by decide) rfl (fun ls hl => ?_)
          refine lv_goto (tgt := 42) hx hb dX11_setUp_150 (by decide) ?_
          exact ih_42 ((i + 1), t_68, cz, (upd g (nI i).toNatClampNeg (-1)), o2) (by show ((i + 1) ≤ 40 ∧ 40 < (i + 1) + n_42 ∧ (i + 1) ≤ P_) ∧ 0 ≤ t_68.toInt ∧ (0 ≤ cz.toInt ∧ cz.toInt ≤ 1) ∧ kt_r (upd g (nI i).toNatClampNeg (-1)) (i + 1) (-1) (ml.toInt * mw.toInt - 1) ∧ kt_con o2 (upd g (nI i).toNatClampNeg (-1)) (i + 1); rw [nI_clamp (by omega)]; first | exact ⟨by omega, by omega, by omega, kt_snoc hga (by decide) (by rw [kt_cm1]; omega), hco.skip⟩ | (have e := kt_nIof (x := t_58) (by omega); have h9 := hco.add (F := t_58.toInt.toNat) (by omega); rw [← e] at h9; exact ⟨by omega, by omega, by omega, kt_snoc hga (by omega) (by omega), h9⟩) | (exfalso; omega)) H _ hP hD hS ls (lv_sub hl [0, 3, 1, 4, 5] rfl)
  · have d_22 := c_22
    simp only [kt_lt, kt_le, kt_eq, kt_c0, kt_c1, kt_c2, kt_c3, kt_c4, kt_c8, kt_c9, kt_cm1, kt_c81, kt_c40, kt_c7, kt_c5, kt_c6, kt_c512, kt_c10, kt_c10000] at d_22
    refine lv_aload_n hx hb dX11_setUp_25 rfl (lv_at hl 3 rfl) ?_
    refine va_get (D := D) (ci := 11) (C := RX11) (T := TX11) (N := 29) hx hb hts iw_X11_setUp_X11 hown hK hP 0 rfl rfl 14 (by decide) (hts (.fieldLink RX11 33 "KingTableModel" "on" "[I") (List.mem_cons_of_mem _ (List.mem_append_left _ (List.mem_cons_of_mem _ (List.Mem.head _))))) (fun _ h9 => h9) rfl dX11_setUp_26 ?_
    refine lv_iload hx hb dX11_setUp_29 (lv_at hl 0 rfl) ?_
    refine lv_iconst (v := (-1)) hx hb dX11_setUp_31 (by decide) ?_
    have hi_9 : vp_in (nI k) 81 := by exact kt_in (by omega) (by omega)
    refine va_iast hx hb hK hP hD hS 2 0 rfl rfl hi_9 dX11_setUp_32 (fun H locs hP hD hS => ?_)
    have hP : va_P D vwCl [(mx, .inr (11, [.int ml, .int mw, .ref ms, .int mgl, .int mhd, .int mre, .int mag, .int mkt, .int mho, .int mpc, .int t_9, .int mki, .ref mk, .ref ma, .ref mo, .ref mg, .ref mm, .ref mt, .int mdn, .int mun, .ref mn, .int mtk, .ref me, .ref mq, .int msv, .ref mwo, .ref md, .ref mf, .ref mr])), (ma, .inl (cI, 40, .inl fa)), (mo, .inl (cI, 81, .inl (upd o (nI k).toNatClampNeg (-1)))), (mg, .inl (cI, 81, .inl fr)), (mk, .inl (cI, 40, .inl fk))] H := hP
    have hD : va_D A [(mx, .inr (11, [.int ml, .int mw, .ref ms, .int mgl, .int mhd, .int mre, .int mag, .int mkt, .int mho, .int mpc, .int t_9, .int mki, .ref mk, .ref ma, .ref mo, .ref mg, .ref mm, .ref mt, .int mdn, .int mun, .ref mn, .int mtk, .ref me, .ref mq, .int msv, .ref mwo, .ref md, .ref mf, .ref mr])), (ma, .inl (cI, 40, .inl fa)), (mo, .inl (cI, 81, .inl (upd o (nI k).toNatClampNeg (-1)))), (mg, .inl (cI, 81, .inl fr)), (mk, .inl (cI, 40, .inl fk))] := hD
    refine lv_iinc (v := nI (k + 1)) (lv' := [(4, .int (nI (k + 1))), (3, .int 1), (2, .int t_2), (0, .ref mx), (1, .int p1)]) hx hb dX11_setUp_33 hl (k := 0) rfl (nI_1 _) (by decide) rfl (fun ls hl => ?_)
    refine lv_goto (tgt := 16) hx hb dX11_setUp_36 (by decide) ?_
    exact ih_16 ((k + 1), (upd o (nI k).toNatClampNeg (-1))) (by show ((k + 1) ≤ 81 ∧ 81 < (k + 1) + n_16 ∧ ((k + 1) : Int) ≤ ml.toInt * mw.toInt) ∧ (∀ j : Nat, j < (k + 1) → (upd o (nI k).toNatClampNeg (-1)) j = -1) ∧ ∀ j : Nat, j < 81 → ml.toInt * mw.toInt ≤ (j : Int) → (upd o (nI k).toNatClampNeg (-1)) j = -1; refine ⟨by omega, fun j hj => ?_, fun j hj hs => ?_⟩ <;> rw [nI_clamp (by omega)]; exact if hjk : j = k then (by rw [hjk, pk_us]) else (by rw [pk_un hjk]; exact hz j (by omega)); rw [pk_un (by omega)]; exact hz2 j hj hs) H _ hP hD hS ls (lv_sub hl [0, 1, 2, 3, 4] rfl)
