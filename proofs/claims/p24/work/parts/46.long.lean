theorem kt_l2i {t : Int32} {x : Int64} (h : t = x.toInt32) (h1 : -2147483648 ≤ x.toInt) (h2 : x.toInt < 2147483648) : t.toInt = x.toInt := by
  obtain ⟨k, hk⟩ := kt_bm x.toInt
  have hr := kt_rng t
  have e : t.toInt = x.toInt + 4294967296 * k := by rw [h, Int64.toInt_toInt32]; exact hk
  omega
theorem kt_lrng (x : Int64) : -9223372036854775808 ≤ x.toInt ∧ x.toInt < 9223372036854775808 := ⟨Int64.le_toInt x, Int64.toInt_lt x⟩
theorem kt_bm64 (X : Int) : ∃ k : Int, X.bmod (2 ^ 64) = X + 18446744073709551616 * k := by
  have h : X.bmod (2 ^ 64) % ((2 ^ 64 : Nat) : Int) = X % ((2 ^ 64 : Nat) : Int) := Int.bmod_emod
  have e : ((2 ^ 64 : Nat) : Int) = 18446744073709551616 := by decide
  rw [e] at h
  exact ⟨(X.bmod (2 ^ 64) - X) / 18446744073709551616, by omega⟩
theorem kt_lmul {t x y : Int64} (h : t = x * y) (h1 : -9223372036854775808 ≤ x.toInt * y.toInt) (h2 : x.toInt * y.toInt < 9223372036854775808) : t.toInt = x.toInt * y.toInt := by
  obtain ⟨k, hk⟩ := kt_bm64 (x.toInt * y.toInt)
  have hr := kt_lrng t
  have e : t.toInt = x.toInt * y.toInt + 18446744073709551616 * k := by rw [h, Int64.toInt_mul]; exact hk
  omega
theorem kt_ldiv {t x y : Int64} (h : t = x / y) (hx : 0 ≤ x.toInt) (hy : 0 < y.toInt) : t.toInt = x.toInt / y.toInt := by
  rw [h, Int64.toInt_div_of_ne_right _ _ (by intro e; rw [e] at hy; exact absurd hy (by decide)), Int.tdiv_eq_ediv_of_nonneg hx]
theorem kt_lcmp {t : Int32} {x y : Int64} (h : t = lg_cmp x y) : (t.toInt = 1 ∧ y.toInt < x.toInt) ∨ (t.toInt = 0 ∧ x.toInt = y.toInt) ∨ (t.toInt = -1 ∧ x.toInt < y.toInt) := by
  rw [h]
  unfold lg_cmp
  by_cases h1 : x > y
  · rw [if_pos h1]; exact Or.inl ⟨by decide, Int64.lt_iff_toInt_lt.mp h1⟩
  · rw [if_neg h1]
    by_cases h2 : x = y
    · rw [if_pos h2]; exact Or.inr (Or.inl ⟨by decide, by rw [h2]⟩)
    · rw [if_neg h2]
      refine Or.inr (Or.inr ⟨by decide, ?_⟩)
      have h3 : ¬ y.toInt < x.toInt := fun h => h1 (Int64.lt_iff_toInt_lt.mpr h)
      have h4 : ¬ x.toInt = y.toInt := fun h => h2 (Int64.toInt_inj.mp h)
      omega
/-- how many places k pieces have, to the base B -/
def kt_pw (B : Int) : Nat → Int
  | 0 => 1
  | k + 1 => kt_pw B k * B
theorem kt_pw_1 {B : Int} (hB : 1 ≤ B) : ∀ k, 1 ≤ kt_pw B k
  | 0 => Int.le_refl 1
  | k + 1 => kt_mulp (kt_pw_1 hB k) hB
theorem kt_pw_s {B : Int} (hB : 1 ≤ B) (k : Nat) : ∀ n, kt_pw B k ≤ kt_pw B (k + n)
  | 0 => Int.le_refl _
  | n + 1 => by
    have h := kt_pw_s hB k n
    have h1 := kt_pw_1 hB (k + n)
    have h2 : kt_pw B (k + n) * 1 ≤ kt_pw B (k + n) * B := Int.mul_le_mul_of_nonneg_left hB (by omega)
    rw [Int.mul_one] at h2
    show kt_pw B k ≤ kt_pw B (k + n) * B
    omega
theorem kt_pw_m {B : Int} (hB : 1 ≤ B) {k n : Nat} (h : k ≤ n) : kt_pw B k ≤ kt_pw B n := by
  have e : n = k + (n - k) := by omega
  rw [e]
  exact kt_pw_s hB k (n - k)
theorem kt_dig {v p d B : Int} (h2 : v < p) (h3 : d < B) (hB : 1 ≤ B) : v * B + d < p * B := by
  have h : (v + 1) * B ≤ p * B := Int.mul_le_mul_of_nonneg_right (by omega) (by omega)
  rw [Int.add_mul, Int.one_mul] at h
  omega

theorem iw_X11_stands_X11 : ∀ w ∈ wsX110, w ∈ wsX11_stands := fun _ h => kt_wp_X11_stands__X110 h
set_option maxHeartbeats 4000000 in
set_option maxRecDepth 100000 in
theorem c_X11_stands (l : Launch) (D : va_G) (cI cZ cB : ClassId) (sz : Nat) (mx : Nat) (ms : Nat) (mk : Nat) (ma : Nat) (mo : Nat) (mg : Nat) (mm : Nat) (mt : Nat) (mn : Nat) (me : Nat) (mq : Nat) (mwo : Nat) (md : Nat) (mf : Nat) (mr : Nat) (ml : Int32) (mw : Int32) (mgl : Int32) (mhd : Int32) (mre : Int32) (mag : Int32) (mkt : Int32) (mho : Int32) (mpc : Int32) (msd : Int32) (mki : Int32) (mdn : Int32) (mun : Int32) (mtk : Int32) (msv : Int32) (P_ : Nat) (hml_ : 2 ≤ ml.toInt ∧ ml.toInt ≤ 9) (hmw : 2 ≤ mw.toInt ∧ mw.toInt ≤ 9) (hpc : (P_ : Int) = mpc.toInt ∧ P_ ≤ 40) : kt_Ml l yX11_stands wsX11_stands { frames := 1, cells := 0, slots := 0, locals := 20 } D (kt_ty cI cZ cB) [.ref mx] sz [(mx, .inr (11, [.int ml, .int mw, .ref ms, .int mgl, .int mhd, .int mre, .int mag, .int mkt, .int mho, .int mpc, .int msd, .int mki, .ref mk, .ref ma, .ref mo, .ref mg, .ref mm, .ref mt, .int mdn, .int mun, .ref mn, .int mtk, .ref me, .ref mq, .int msv, .ref mwo, .ref md, .ref mf, .ref mr]))] (fun (r : Int64) (u : Unit) => (2 ≤ r.toInt ∧ r.toInt ≤ 820000) ∧ (r.toInt ≤ 10000 → r.toInt = 2 * kt_pw (ml.toInt * mw.toInt + 1) P_) ∧ (10000 < r.toInt → 10000 < 2 * kt_pw (ml.toInt * mw.toInt + 1) P_)) (fun (u : Unit) => [(mx, .inr (11, [.int ml, .int mw, .ref ms, .int mgl, .int mhd, .int mre, .int mag, .int mkt, .int mho, .int mpc, .int msd, .int mki, .ref mk, .ref ma, .ref mo, .ref mg, .ref mm, .ref mt, .int mdn, .int mun, .ref mn, .int mtk, .ref me, .ref mq, .int msv, .ref mwo, .ref md, .ref mf, .ref mr]))]) 0 0 := by
  refine kt_Ml.of (cc := cX11_stands) (maxL := 4) (ret := some .long) (by decide) rfl (Nat.le_of_ble_eq_true rfl) ?_
  intro p e s m below meth c A ls H hAt hP hD hS hl
  obtain ⟨hx, hb, hr, hml, hown, hts, hN, hK, hlk, hnm, hA⟩ := hAt
  have hl : lv_has ls 4 [(0, .ref mx)] := hl
  have hown : s.vm.findClass RX11 = some m.cls := hown
  have hsb := kt_mulb hml_ hmw
  have hpw1 := fun k => kt_pw_1 (B := (ml.toInt * mw.toInt + 1)) (by omega) k
  refine lv_ldc2 (v := 2) hx hb hown (hts (.constantLong RX11 180 (2)) (List.mem_cons_of_mem _ (List.mem_append_left _ (List.Mem.head _)))) dX11_stands_0 ?_
  refine lv_topl (fun t_0 et_0 => ?_)
  have hk_0 : t_0.toInt = 2 := by rw [et_0]; decide
  refine lv_lstore_n (lv' := [(1, .long t_0), (0, .ref mx)]) hx hb dX11_stands_3 rfl hl (by decide) rfl (fun ls hl => ?_)
  refine lv_iconst (v := 0) hx hb dX11_stands_4 (by decide) ?_
  refine lv_istore_n (lv' := [(3, .int 0), (1, .long t_0), (0, .ref mx)]) hx hb dX11_stands_5 rfl hl (by decide) rfl (fun ls hl => ?_)
  refine kt_loop (σ := Nat × Int64) 6 4 (fun u => [(mx, .inr (11, [.int ml, .int mw, .ref ms, .int mgl, .int mhd, .int mre, .int mag, .int mkt, .int mho, .int mpc, .int msd, .int mki, .ref mk, .ref ma, .ref mo, .ref mg, .ref mm, .ref mt, .int mdn, .int mun, .ref mn, .int mtk, .ref me, .ref mq, .int msv, .ref mwo, .ref md, .ref mf, .ref mr]))]) (fun u => [(3, .int (nI u.1)), (1, .long u.2), (0, .ref mx)]) (fun n u => (u.1 ≤ 40 ∧ 40 < u.1 + n ∧ u.1 ≤ P_) ∧ u.2.toInt = 2 * kt_pw (ml.toInt * mw.toInt + 1) u.1 ∧ 2 ≤ u.2.toInt ∧ u.2.toInt ≤ 820000) (fun u h => by omega) (fun n_6 ih_6 u hI H locs hP hD hS ls hl => ?_) (41) (0, t_0) (by show (0 ≤ 40 ∧ 40 < 0 + 41 ∧ 0 ≤ P_) ∧ t_0.toInt = 2 * kt_pw (ml.toInt * mw.toInt + 1) 0 ∧ 2 ≤ t_0.toInt ∧ t_0.toInt ≤ 820000; exact ⟨⟨by decide, by decide, by omega⟩, by rw [hk_0]; rfl, by omega, by omega⟩) hP hD hS (lv_sub hl [0, 1, 2] rfl)
  obtain ⟨k, x⟩ := u
  have hP : va_P D vwCl [(mx, .inr (11, [.int ml, .int mw, .ref ms, .int mgl, .int mhd, .int mre, .int mag, .int mkt, .int mho, .int mpc, .int msd, .int mki, .ref mk, .ref ma, .ref mo, .ref mg, .ref mm, .ref mt, .int mdn, .int mun, .ref mn, .int mtk, .ref me, .ref mq, .int msv, .ref mwo, .ref md, .ref mf, .ref mr]))] H := hP
  have hD : va_D A [(mx, .inr (11, [.int ml, .int mw, .ref ms, .int mgl, .int mhd, .int mre, .int mag, .int mkt, .int mho, .int mpc, .int msd, .int mki, .ref mk, .ref ma, .ref mo, .ref mg, .ref mm, .ref mt, .int mdn, .int mun, .ref mn, .int mtk, .ref me, .ref mq, .int msv, .ref mwo, .ref md, .ref mf, .ref mr]))] := hD
  have hl : lv_has ls 4 [(3, .int (nI k)), (1, .long x), (0, .ref mx)] := hl
  have hI : (k ≤ 40 ∧ 40 < k + (n_6 + 1) ∧ k ≤ P_) ∧ x.toInt = 2 * kt_pw (ml.toInt * mw.toInt + 1) k ∧ 2 ≤ x.toInt ∧ x.toInt ≤ 820000 := hI
  obtain ⟨hkb, hx0, hx1⟩ := hI
  have hk0 := kt_nI (n := k) (by omega)
  refine lv_iload_n hx hb dX11_stands_6 rfl (lv_at hl 0 rfl) ?_
  refine lv_aload_n hx hb dX11_stands_7 rfl (lv_at hl 2 rfl) ?_
  refine va_get (D := D) (ci := 11) (C := RX11) (T := TX11) (N := 29) hx hb hts iw_X11_stands_X11 hown hK hP 0 rfl rfl 9 (by decide) (hts (.fieldLink RX11 103 "KingTableModel" "pieces" "I") (List.mem_cons_of_mem _ (List.mem_append_left _ (List.mem_cons_of_mem _ (List.Mem.head _))))) (fun _ h9 => h9) rfl dX11_stands_8 ?_
  refine lv_icmp_ge (tgt := 38) hx hb dX11_stands_11 (by decide) (fun c_11 => ?_) (fun c_11 => ?_)
  · have d_11 := c_11
    simp only [kt_lt, kt_le, kt_eq, kt_c0, kt_c1, kt_c2, kt_c3, kt_c4, kt_c8, kt_c9, kt_cm1, kt_c81, kt_c40, kt_c7, kt_c5, kt_c6, kt_c512, kt_c10, kt_c10000] at d_11
    refine lv_lload_n hx hb dX11_stands_38 rfl (lv_at hl 1 rfl) ?_
    exact kt_rl () hx hb hr hlk hS dX11_stands_39 hP hD (by show (2 ≤ x.toInt ∧ x.toInt ≤ 820000) ∧ (x.toInt ≤ 10000 → x.toInt = 2 * kt_pw (ml.toInt * mw.toInt + 1) P_) ∧ (10000 < x.toInt → 10000 < 2 * kt_pw (ml.toInt * mw.toInt + 1) P_); first | (have hkP : k = P_ := by omega); (rw [hkP] at hx0); exact ⟨by omega, fun _ => hx0, fun h => by omega⟩ | (have hm := kt_pw_m (B := (ml.toInt * mw.toInt + 1)) (by omega) (k := k) (n := P_) (by omega)); exact ⟨by omega, fun h => by exfalso; omega, fun _ => by omega⟩)
  · have d_11 := c_11
    simp only [kt_lt, kt_le, kt_eq, kt_c0, kt_c1, kt_c2, kt_c3, kt_c4, kt_c8, kt_c9, kt_cm1, kt_c81, kt_c40, kt_c7, kt_c5, kt_c6, kt_c512, kt_c10, kt_c10000] at d_11
    refine lv_lload_n hx hb dX11_stands_14 rfl (lv_at hl 1 rfl) ?_
    refine lv_ldc2 (v := 10000) hx hb hown (hts (.constantLong RX11 182 (10000)) (List.mem_cons_of_mem _ (List.mem_append_left _ (List.mem_cons_of_mem _ (List.mem_cons_of_mem _ (List.Mem.head _)))))) dX11_stands_15 ?_
    refine lv_topl (fun t_15 et_15 => ?_)
    have hk_15 : t_15.toInt = 10000 := by rw [et_15]; decide
    refine W.lcmp hx hb dX11_stands_18 ?_
    refine lv_topi (fun t_18 et_18 => ?_)
    have hk_18 := kt_lcmp et_18
    refine lv_if_gt (tgt := 38) hx hb dX11_stands_19 (by decide) (fun c_19 => ?_) (fun c_19 => ?_)
    · have d_19 := c_19
      simp only [kt_lt, kt_le, kt_eq, kt_c0, kt_c1, kt_c2, kt_c3, kt_c4, kt_c8, kt_c9, kt_cm1, kt_c81, kt_c40, kt_c7, kt_c5, kt_c6, kt_c512, kt_c10, kt_c10000] at d_19
      refine lv_lload_n hx hb dX11_stands_38 rfl (lv_at hl 1 rfl) ?_
      exact kt_rl () hx hb hr hlk hS dX11_stands_39 hP hD (by show (2 ≤ x.toInt ∧ x.toInt ≤ 820000) ∧ (x.toInt ≤ 10000 → x.toInt = 2 * kt_pw (ml.toInt * mw.toInt + 1) P_) ∧ (10000 < x.toInt → 10000 < 2 * kt_pw (ml.toInt * mw.toInt + 1) P_); first | (have hkP : k = P_ := by omega); (rw [hkP] at hx0); exact ⟨by omega, fun _ => hx0, fun h => by omega⟩ | (have hm := kt_pw_m (B := (ml.toInt * mw.toInt + 1)) (by omega) (k := k) (n := P_) (by omega)); exact ⟨by omega, fun h => by exfalso; omega, fun _ => by omega⟩)
    · have d_19 := c_19
      simp only [kt_lt, kt_le, kt_eq, kt_c0, kt_c1, kt_c2, kt_c3, kt_c4, kt_c8, kt_c9, kt_cm1, kt_c81, kt_c40, kt_c7, kt_c5, kt_c6, kt_c512, kt_c10, kt_c10000] at d_19
      refine lv_lload_n hx hb dX11_stands_22 rfl (lv_at hl 1 rfl) ?_
      refine lv_aload_n hx hb dX11_stands_23 rfl (lv_at hl 2 rfl) ?_
      refine kt_pi (wc := [(mx, .inr (11, [.int ml, .int mw, .ref ms, .int mgl, .int mhd, .int mre, .int mag, .int mkt, .int mho, .int mpc, .int msd, .int mki, .ref mk, .ref ma, .ref mo, .ref mg, .ref mm, .ref mt, .int mdn, .int mun, .ref mn, .int mtk, .ref me, .ref mq, .int msv, .ref mwo, .ref md, .ref mf, .ref mr]))]) [0] hP hD hS hA rfl (by decide) (fun hPc hDc => va_runV (As := []) (rest := [.long x]) ⟨hx, hb, hml, hown, hts⟩ (c_X11_fields l D cI cZ cB H.size mx ms mk ma mo mg mm mt mn me mq mwo md mf mr ml mw mgl mhd mre mag mkt mho mpc msd mki mdn mun mtk msv (by first | assumption | omega | rfl | decide) (by first | assumption | omega | rfl | decide)) (cwV 0 hts gX11_stands_X11_fields rfl rfl rfl (by decide +kernel) ⟨Nat.le_of_ble_eq_true rfl, Nat.le_of_ble_eq_true rfl⟩) (kt_preV hN hK hPc hDc 0 (ci := 11) (q := (RX11, TX11, 29)) rfl rfl) rfl rfl hl.1 rfl (lv_room (Nat.le_of_ble_eq_true rfl)) dX11_stands_24 ⟨Nat.le_of_ble_eq_true rfl, Nat.le_of_ble_eq_true rfl⟩) (fun r_24 _ H locs hw_24 hP hS => ?_)
      refine lv_iconst (v := 1) hx hb dX11_stands_27 (by decide) ?_
      refine lv_iadd hx hb dX11_stands_28 ?_
      refine lv_topi (fun t_28 et_28 => ?_)
      first | have hk_28 := kt_addx et_28 (by first | omega | (simp only [kt_c0, kt_c1, kt_c2, kt_c3, kt_c4, kt_c8, kt_c9, kt_cm1, kt_c81, kt_c40, kt_c7, kt_c5, kt_c6, kt_c512, kt_c10, kt_c10000]; omega)) (by first | omega | (simp only [kt_c0, kt_c1, kt_c2, kt_c3, kt_c4, kt_c8, kt_c9, kt_cm1, kt_c81, kt_c40, kt_c7, kt_c5, kt_c6, kt_c512, kt_c10, kt_c10000]; omega)) | obtain ⟨k_28, hk_28, hm_28, hM_28⟩ := kt_addk et_28
      try simp only [kt_c0, kt_c1, kt_c2, kt_c3, kt_c4, kt_c8, kt_c9, kt_cm1, kt_c81, kt_c40, kt_c7, kt_c5, kt_c6, kt_c512, kt_c10, kt_c10000] at hk_28
      refine lv_i2l hx hb dX11_stands_29 rfl ?_
      refine lv_topl (fun t_29 et_29 => ?_)
      have hk_29 : t_29.toInt = t_28.toInt := by rw [et_29]; exact Int32.toInt_toInt64 _
      have e29 : t_29.toInt = (ml.toInt * mw.toInt + 1) := by omega
      have hmb := kt_mulr (a := x.toInt) (b := t_29.toInt) (A := 10000) (B := 82) (by omega) (by omega)
      have hmp := kt_mulp (a := x.toInt) (b := t_29.toInt) (by omega) (by omega)
      have hm2 : x.toInt * 1 ≤ x.toInt * t_29.toInt := Int.mul_le_mul_of_nonneg_left (by omega) (by omega)
      refine lv_lmul hx hb dX11_stands_30 ?_
      refine lv_topl (fun t_30 et_30 => ?_)
      have hk_30 := kt_lmul et_30 (by omega) (by omega)
      refine lv_lstore_n (lv' := [(1, .long t_30), (3, .int (nI k)), (0, .ref mx)]) hx hb dX11_stands_31 rfl hl (by decide) rfl (fun ls hl => ?_)
      refine lv_iinc (v := nI (k + 1)) (lv' := [(3, .int (nI (k + 1))), (1, .long t_30), (0, .ref mx)]) hx hb dX11_stands_32 hl (k := 1) rfl (nI_1 _) (by decide) rfl (fun ls hl => ?_)
      refine lv_goto (tgt := 6) hx hb dX11_stands_35 (by decide) ?_
      exact ih_6 ((k + 1), t_30) (by show ((k + 1) ≤ 40 ∧ 40 < (k + 1) + n_6 ∧ (k + 1) ≤ P_) ∧ t_30.toInt = 2 * kt_pw (ml.toInt * mw.toInt + 1) (k + 1) ∧ 2 ≤ t_30.toInt ∧ t_30.toInt ≤ 820000; exact ⟨by omega, by show t_30.toInt = 2 * (kt_pw (ml.toInt * mw.toInt + 1) k * (ml.toInt * mw.toInt + 1)); rw [hk_30, e29, hx0, Int.mul_assoc], by omega, by omega⟩) H _ hP hD hS ls (lv_sub hl [0, 1, 2] rfl)

theorem iw_X11_number_X11 : ∀ w ∈ wsX110, w ∈ wsX11_number := fun _ h => kt_wp_X11_number__X110 h
theorem iw_X11_setUp_X11 : ∀ w ∈ wsX110, w ∈ wsX11_setUp := fun _ h => kt_wp_X11_setUp__X110 h