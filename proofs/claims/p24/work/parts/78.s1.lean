/-! ===== the reference's solver ===== -/
theorem kt_horner {B j : Nat} {A : Nat → Int32} {v d t b PN : Int} (hb : b = (B : Int)) (ht : t = v * b + d) (hd : d = ((kt_dgt B (A j) : Nat) : Int)) (h : v * ((B ^ (j + 1) : Nat) : Int) + ((kt_pn B A (j + 1) : Nat) : Int) = PN) : t * ((B ^ j : Nat) : Int) + ((kt_pn B A j : Nat) : Int) = PN := by
  subst hb
  subst hd
  subst ht
  rw [← h]
  show _ = v * ((B ^ j * B : Nat) : Int) + ((kt_pn B A j + kt_dgt B (A j) * B ^ j : Nat) : Int)
  rw [Int.natCast_mul (B ^ j) B, Int.natCast_add (kt_pn B A j), Int.natCast_mul (kt_dgt B (A j)), Int.add_mul, Int.mul_assoc v, Int.mul_comm (B : Int), Int.add_assoc, Int.add_comm (((kt_dgt B (A j) : Nat) : Int) * _)]
theorem kt_pw_n {B : Nat} : ∀ k, kt_pw (B : Int) k = ((B ^ k : Nat) : Int)
  | 0 => by
    show (1 : Int) = _
    rw [Nat.pow_zero]
    rfl
  | k + 1 => by
    show kt_pw (B : Int) k * (B : Int) = _
    rw [kt_pw_n k, Nat.pow_succ, Int.natCast_mul]
theorem kt_tr_own {ed : Nat → Nat → Prop} {w : Nat → Int} {s : Nat} (h : ∃ u, ed s u ∧ w u = kt_own s) : kt_tr ed w s = kt_own s := if_pos h
theorem kt_tr_lost {ed : Nat → Nat → Prop} {w : Nat → Int} {s : Nat} (h : ¬ ∃ u, ed s u ∧ w u = kt_own s) (h2 : ∀ u, ed s u → w u = 1 - kt_own s) : kt_tr ed w s = 1 - kt_own s := by
  unfold kt_tr
  rw [if_neg h, if_pos h2]
theorem kt_tr_open {ed : Nat → Nat → Prop} {w : Nat → Int} {s : Nat} (h : ¬ ∃ u, ed s u ∧ w u = kt_own s) (h2 : ¬ ∀ u, ed s u → w u = 1 - kt_own s) : kt_tr ed w s = 3 := by
  unfold kt_tr
  rw [if_neg h, if_neg h2]
theorem kt_tr_cong {ed : Nat → Nat → Prop} {w w' : Nat → Int} {s : Nat} (h : ∀ u, ed s u → w u = w' u) : kt_tr ed w s = kt_tr ed w' s := by
  have h1 : (∃ u, ed s u ∧ w u = kt_own s) ↔ ∃ u, ed s u ∧ w' u = kt_own s := ⟨fun ⟨u, a, b⟩ => ⟨u, a, by rw [← h u a]; exact b⟩, fun ⟨u, a, b⟩ => ⟨u, a, by rw [h u a]; exact b⟩⟩
  have h2 : (∀ u, ed s u → w u = 1 - kt_own s) ↔ ∀ u, ed s u → w' u = 1 - kt_own s := ⟨fun g u a => by rw [← h u a]; exact g u a, fun g u a => by rw [h u a]; exact g u a⟩
  by_cases a : ∃ u, ed s u ∧ w u = kt_own s
  · rw [kt_tr_own a, kt_tr_own (h1.mp a)]
  · by_cases b : ∀ u, ed s u → w u = 1 - kt_own s
    · rw [kt_tr_lost a b, kt_tr_lost (fun g => a (h1.mpr g)) (h2.mp b)]
    · rw [kt_tr_open a b, kt_tr_open (fun g => a (h1.mpr g)) (fun g => b (h2.mpr g))]
/-- a move leads to a stand of the table -/
theorem kt_ed_lt {B P s u : Nat} {w L re : Int} {fr fk : Nat → Int32} {lt lh : Int32} (hw : 2 ≤ w ∧ w ≤ 9) (hL : 2 ≤ L ∧ L ≤ 9) (hB : (B : Int) = L * w + 1) (h : kt_ed B P w L fr fk re lt lh s u) : u < 2 * B ^ P := by
  obtain ⟨y, ⟨h1, h2, h3, h4⟩, h5⟩ := h
  have hsz := kt_mulb hL hw
  have hpv := fun j hj => kt_po_v (B := B) (P := P) (v := s / 2) (by omega) (by omega) j hj
  have hk : y / 32 < P := by omega
  have hx : 0 ≤ (kt_po B P (s / 2) (y / 32)).toInt ∧ (kt_po B P (s / 2) (y / 32)).toInt < L * w := (hpv (y / 32) hk).elim (fun h6 => absurd h6 h2) (fun h6 => by omega)
  have hf := kt_bar_free h4 (by omega)
  have hr := kt_al_r (a := ((y / 8 % 4 : Nat) : Int)) (n := ((y % 8 + 1 : Nat) : Int)) hw hL hx (by omega)
  have ht : 0 ≤ kt_al (kt_po B P (s / 2) (y / 32)).toInt w L ((y / 8 % 4 : Nat) : Int) ((y % 8 + 1 : Nat) : Int) ∧ kt_al (kt_po B P (s / 2) (y / 32)).toInt w L ((y / 8 % 4 : Nat) : Int) ((y % 8 + 1 : Nat) : Int) < (B : Int) - 1 := by
    rcases hr with ⟨-, h6⟩ | h6
    · exact absurd hf.1 h6
    · omega
  have hpm := kt_pn_v (B := B) (by omega) (kt_mk_v (fr := fr) (fk := fk) (lt := lt) (lh := lh) (B := B) (by omega) hpv ht)
  rw [h5]
  unfold kt_suc
  omega

set_option maxHeartbeats 4000000 in
set_option maxRecDepth 100000 in
theorem c_X11_numberX (l : Launch) (D : va_G) (cI cZ cB : ClassId) (sz : Nat) (mx : Nat) (ms : Nat) (mk : Nat) (ma : Nat) (mo : Nat) (mg : Nat) (mm : Nat) (mt : Nat) (mn : Nat) (me : Nat) (mq : Nat) (mwo : Nat) (md : Nat) (mf : Nat) (mr : Nat) (ml : Int32) (mw : Int32) (mgl : Int32) (mhd : Int32) (mre : Int32) (mag : Int32) (mkt : Int32) (mho : Int32) (mpc : Int32) (msd : Int32) (mki : Int32) (mdn : Int32) (mun : Int32) (mtk : Int32) (msv : Int32) (P_ : Nat) (fa : Nat → Int32) (hml_ : 2 ≤ ml.toInt ∧ ml.toInt ≤ 9) (hmw : 2 ≤ mw.toInt ∧ mw.toInt ≤ 9) (hpc : (P_ : Int) = mpc.toInt ∧ P_ ≤ 40) (hfa : kt_r fa P_ (-1) (ml.toInt * mw.toInt - 1)) (hst_ : 2 * kt_pw (ml.toInt * mw.toInt + 1) P_ ≤ 10000) (hsd : 0 ≤ msd.toInt ∧ msd.toInt ≤ 1) : kt_Mi l yX11_number wsX11_number { frames := 1, cells := 0, slots := 0, locals := 20 } D (kt_ty cI cZ cB) [.ref mx] sz [(mx, .inr (11, [.int ml, .int mw, .ref ms, .int mgl, .int mhd, .int mre, .int mag, .int mkt, .int mho, .int mpc, .int msd, .int mki, .ref mk, .ref ma, .ref mo, .ref mg, .ref mm, .ref mt, .int mdn, .int mun, .ref mn, .int mtk, .ref me, .ref mq, .int msv, .ref mwo, .ref md, .ref mf, .ref mr])), (ma, .inl (cI, 40, .inl fa))] (fun (r : Int32) (u : Unit) => r.toInt = 2 * ((kt_pn ((ml.toInt * mw.toInt).toNat + 1) fa P_ : Nat) : Int) + msd.toInt ∧ 0 ≤ r.toInt ∧ r.toInt < 2 * kt_pw (ml.toInt * mw.toInt + 1) P_) (fun (u : Unit) => [(mx, .inr (11, [.int ml, .int mw, .ref ms, .int mgl, .int mhd, .int mre, .int mag, .int mkt, .int mho, .int mpc, .int msd, .int mki, .ref mk, .ref ma, .ref mo, .ref mg, .ref mm, .ref mt, .int mdn, .int mun, .ref mn, .int mtk, .ref me, .ref mq, .int msv, .ref mwo, .ref md, .ref mf, .ref mr])), (ma, .inl (cI, 40, .inl fa))]) 0 0 := by
  refine kt_Mi.of (cc := cX11_number) (maxL := 3) (ret := some .int) (by decide) rfl (Nat.le_of_ble_eq_true rfl) ?_
  intro p e s m below meth c A ls H hAt hP hD hS hl
  obtain ⟨hx, hb, hr, hml, hown, hts, hN, hK, hlk, hnm, hA⟩ := hAt
  have hl : lv_has ls 3 [(0, .ref mx)] := hl
  have hown : s.vm.findClass RX11 = some m.cls := hown
  have hsb := kt_mulb hml_ hmw
  have hBR : ((((ml.toInt * mw.toInt).toNat + 1) : Nat) : Int) = ml.toInt * mw.toInt + 1 := by omega
  refine lv_iconst (v := 0) hx hb dX11_number_0 (by decide) ?_
  refine lv_istore_n (lv' := [(1, .int 0), (0, .ref mx)]) hx hb dX11_number_1 rfl hl (by decide) rfl (fun ls hl => ?_)
  refine lv_aload_n hx hb dX11_number_2 rfl (lv_at hl 1 rfl) ?_
  refine va_get (D := D) (ci := 11) (C := RX11) (T := TX11) (N := 29) hx hb hts iw_X11_number_X11 hown hK hP 0 rfl rfl 9 (by decide) (hts (.fieldLink RX11 103 "KingTableModel" "pieces" "I") (List.mem_cons_of_mem _ (List.mem_append_left _ (List.Mem.head _)))) (fun _ h9 => h9) rfl dX11_number_3 ?_
  refine lv_iconst (v := 1) hx hb dX11_number_6 (by decide) ?_
  refine lv_isub hx hb dX11_number_7 ?_
  refine lv_topi (fun t_7 et_7 => ?_)
  first | have hk_7 := kt_subx et_7 (by first | omega | (simp only [kt_c0, kt_c1, kt_c2, kt_c3, kt_c4, kt_c8, kt_c9, kt_cm1, kt_c81, kt_c40, kt_c7, kt_c5, kt_c6, kt_c512, kt_c10, kt_c10000]; omega)) (by first | omega | (simp only [kt_c0, kt_c1, kt_c2, kt_c3, kt_c4, kt_c8, kt_c9, kt_cm1, kt_c81, kt_c40, kt_c7, kt_c5, kt_c6, kt_c512, kt_c10, kt_c10000]; omega)) | obtain ⟨k_7, hk_7, hm_7, hM_7⟩ := kt_subk et_7
  try simp only [kt_c0, kt_c1, kt_c2, kt_c3, kt_c4, kt_c8, kt_c9, kt_cm1, kt_c81, kt_c40, kt_c7, kt_c5, kt_c6, kt_c512, kt_c10, kt_c10000] at hk_7
  refine lv_istore_n (lv' := [(2, .int t_7), (1, .int 0), (0, .ref mx)]) hx hb dX11_number_8 rfl hl (by decide) rfl (fun ls hl => ?_)
  refine kt_loop (σ := Int32 × Int32) 9 3 (fun u => [(mx, .inr (11, [.int ml, .int mw, .ref ms, .int mgl, .int mhd, .int mre, .int mag, .int mkt, .int mho, .int mpc, .int msd, .int mki, .ref mk, .ref ma, .ref mo, .ref mg, .ref mm, .ref mt, .int mdn, .int mun, .ref mn, .int mtk, .ref me, .ref mq, .int msv, .ref mwo, .ref md, .ref mf, .ref mr])), (ma, .inl (cI, 40, .inl fa))]) (fun u => [(2, .int u.1), (1, .int u.2), (0, .ref mx)]) (fun n u => (-1 ≤ u.1.toInt ∧ u.1.toInt < (P_ : Int) ∧ u.1.toInt + 1 < n) ∧ 0 ≤ u.2.toInt ∧ u.2.toInt < kt_pw (ml.toInt * mw.toInt + 1) ((P_ : Int) - 1 - u.1.toInt).toNat ∧ u.2.toInt * ((((ml.toInt * mw.toInt).toNat + 1) ^ (u.1.toInt + 1).toNat : Nat) : Int) + ((kt_pn ((ml.toInt * mw.toInt).toNat + 1) fa (u.1.toInt + 1).toNat : Nat) : Int) = ((kt_pn ((ml.toInt * mw.toInt).toNat + 1) fa P_ : Nat) : Int)) (fun u h => by omega) (fun n_9 ih_9 u hI H locs hP hD hS ls hl => ?_) (P_ + 1) (t_7, (0 : Int32)) (by show (-1 ≤ t_7.toInt ∧ t_7.toInt < (P_ : Int) ∧ t_7.toInt + 1 < (P_ + 1)) ∧ 0 ≤ (0 : Int32).toInt ∧ (0 : Int32).toInt < kt_pw (ml.toInt * mw.toInt + 1) ((P_ : Int) - 1 - t_7.toInt).toNat ∧ (0 : Int32).toInt * ((((ml.toInt * mw.toInt).toNat + 1) ^ (t_7.toInt + 1).toNat : Nat) : Int) + ((kt_pn ((ml.toInt * mw.toInt).toNat + 1) fa (t_7.toInt + 1).toNat : Nat) : Int) = ((kt_pn ((ml.toInt * mw.toInt).toNat + 1) fa P_ : Nat) : Int); exact ⟨by omega, by decide, by have := kt_pw_1 (B := (ml.toInt * mw.toInt + 1)) (by omega) ((P_ : Int) - 1 - t_7.toInt).toNat; rw [kt_c0]; omega, by rw [kt_c0, Int.zero_mul, show (t_7.toInt + 1).toNat = P_ by omega]; omega⟩) hP hD hS (lv_sub hl [0, 1, 2] rfl)
  obtain ⟨i, v⟩ := u
  have hP : va_P D vwCl [(mx, .inr (11, [.int ml, .int mw, .ref ms, .int mgl, .int mhd, .int mre, .int mag, .int mkt, .int mho, .int mpc, .int msd, .int mki, .ref mk, .ref ma, .ref mo, .ref mg, .ref mm, .ref mt, .int mdn, .int mun, .ref mn, .int mtk, .ref me, .ref mq, .int msv, .ref mwo, .ref md, .ref mf, .ref mr])), (ma, .inl (cI, 40, .inl fa))] H := hP
  have hD : va_D A [(mx, .inr (11, [.int ml, .int mw, .ref ms, .int mgl, .int mhd, .int mre, .int mag, .int mkt, .int mho, .int mpc, .int msd, .int mki, .ref mk, .ref ma, .ref mo, .ref mg, .ref mm, .ref mt, .int mdn, .int mun, .ref mn, .int mtk, .ref me, .ref mq, .int msv, .ref mwo, .ref md, .ref mf, .ref mr])), (ma, .inl (cI, 40, .inl fa))] := hD
  have hl : lv_has ls 3 [(2, .int i), (1, .int v), (0, .ref mx)] := hl
  have hI : (-1 ≤ i.toInt ∧ i.toInt < (P_ : Int) ∧ i.toInt + 1 < (n_9 + 1)) ∧ 0 ≤ v.toInt ∧ v.toInt < kt_pw (ml.toInt * mw.toInt + 1) ((P_ : Int) - 1 - i.toInt).toNat ∧ v.toInt * ((((ml.toInt * mw.toInt).toNat + 1) ^ (i.toInt + 1).toNat : Nat) : Int) + ((kt_pn ((ml.toInt * mw.toInt).toNat + 1) fa (i.toInt + 1).toNat : Nat) : Int) = ((kt_pn ((ml.toInt * mw.toInt).toNat + 1) fa P_ : Nat) : Int) := hI
  obtain ⟨hib, hv0, hv1, hhor⟩ := hI
  refine lv_iload_n hx hb dX11_number_9 rfl (lv_at hl 0 rfl) ?_
  refine lv_if_lt (tgt := 52) hx hb dX11_number_10 (by decide) (fun c_10 => ?_) (fun c_10 => ?_)
  · have d_10 := c_10
    simp only [kt_lt, kt_le, kt_eq, kt_c0, kt_c1, kt_c2, kt_c3, kt_c4, kt_c8, kt_c9, kt_cm1, kt_c81, kt_c40, kt_c7, kt_c5, kt_c6, kt_c512, kt_c10, kt_c10000] at d_10
    have hi1 : ((P_ : Int) - 1 - i.toInt).toNat = P_ := by omega
    rw [hi1] at hv1
    rw [show (i.toInt + 1).toNat = 0 by omega, Nat.pow_zero] at hhor
    have hvv : v.toInt = ((kt_pn ((ml.toInt * mw.toInt).toNat + 1) fa P_ : Nat) : Int) := by
      have h5 : v.toInt * ((1 : Nat) : Int) + ((0 : Nat) : Int) = ((kt_pn ((ml.toInt * mw.toInt).toNat + 1) fa P_ : Nat) : Int) := hhor
      rw [← h5]
      omega
    refine lv_iconst (v := 2) hx hb dX11_number_52 (by decide) ?_
    refine lv_iload_n hx hb dX11_number_53 rfl (lv_at hl 1 rfl) ?_
    refine lv_imul hx hb dX11_number_54 ?_
    refine lv_topi (fun t_54 et_54 => ?_)
    obtain ⟨k_54, hk_54, hm_54, hM_54⟩ := kt_mulk (C := 2) (et_54.trans (Int32.mul_comm _ _)) (by decide)
    try simp only [kt_c0, kt_c1, kt_c2, kt_c3, kt_c4, kt_c8, kt_c9, kt_cm1, kt_c81, kt_c40, kt_c7, kt_c5, kt_c6, kt_c512, kt_c10, kt_c10000] at hk_54
    refine lv_aload_n hx hb dX11_number_55 rfl (lv_at hl 2 rfl) ?_
    refine va_get (D := D) (ci := 11) (C := RX11) (T := TX11) (N := 29) hx hb hts iw_X11_number_X11 hown hK hP 0 rfl rfl 10 (by decide) (hts (.fieldLink RX11 126 "KingTableModel" "side" "I") (List.mem_cons_of_mem _ (List.mem_append_left _ (List.mem_cons_of_mem _ (List.mem_cons_of_mem _ (List.Mem.head _)))))) (fun _ h9 => h9) rfl dX11_number_56 ?_
    refine lv_iadd hx hb dX11_number_59 ?_
    refine lv_topi (fun t_59 et_59 => ?_)
    first | have hk_59 := kt_addx et_59 (by first | omega | (simp only [kt_c0, kt_c1, kt_c2, kt_c3, kt_c4, kt_c8, kt_c9, kt_cm1, kt_c81, kt_c40, kt_c7, kt_c5, kt_c6, kt_c512, kt_c10, kt_c10000]; omega)) (by first | omega | (simp only [kt_c0, kt_c1, kt_c2, kt_c3, kt_c4, kt_c8, kt_c9, kt_cm1, kt_c81, kt_c40, kt_c7, kt_c5, kt_c6, kt_c512, kt_c10, kt_c10000]; omega)) | obtain ⟨k_59, hk_59, hm_59, hM_59⟩ := kt_addk et_59
    exact kt_ri () hx hb hr hlk hS dX11_number_60 hP hD (by show t_59.toInt = 2 * ((kt_pn ((ml.toInt * mw.toInt).toNat + 1) fa P_ : Nat) : Int) + msd.toInt ∧ 0 ≤ t_59.toInt ∧ t_59.toInt < 2 * kt_pw (ml.toInt * mw.toInt + 1) P_; exact ⟨by omega, by omega, by omega⟩)
  · have d_10 := c_10
    simp only [kt_lt, kt_le, kt_eq, kt_c0, kt_c1, kt_c2, kt_c3, kt_c4, kt_c8, kt_c9, kt_cm1, kt_c81, kt_c40, kt_c7, kt_c5, kt_c6, kt_c512, kt_c10, kt_c10000] at d_10
    have hpm := kt_pw_m (B := (ml.toInt * mw.toInt + 1)) (by omega) (k := ((P_ : Int) - 1 - i.toInt).toNat) (n := P_) (by omega)
    refine lv_iload_n hx hb dX11_number_13 rfl (lv_at hl 1 rfl) ?_
    refine lv_aload_n hx hb dX11_number_14 rfl (lv_at hl 2 rfl) ?_
    refine kt_pi (wc := [(mx, .inr (11, [.int ml, .int mw, .ref ms, .int mgl, .int mhd, .int mre, .int mag, .int mkt, .int mho, .int mpc, .int msd, .int mki, .ref mk, .ref ma, .ref mo, .ref mg, .ref mm, .ref mt, .int mdn, .int mun, .ref mn, .int mtk, .ref me, .ref mq, .int msv, .ref mwo, .ref md, .ref mf, .ref mr]))]) [0] hP hD hS hA rfl (by decide) (fun hPc hDc => va_runV (As := []) (rest := [.int v]) ⟨hx, hb, hml, hown, hts⟩ (c_X11_fields l D cI cZ cB H.size mx ms mk ma mo mg mm mt mn me mq mwo md mf mr ml mw mgl mhd mre mag mkt mho mpc msd mki mdn mun mtk msv (by first | assumption | omega | rfl | decide) (by first | assumption | omega | rfl | decide)) (cwV 0 hts gX11_number_X11_fields rfl rfl rfl (by decide +kernel) ⟨Nat.le_of_ble_eq_true rfl, Nat.le_of_ble_eq_true rfl⟩) (kt_preV hN hK hPc hDc 0 (ci := 11) (q := (RX11, TX11, 29)) rfl rfl) rfl rfl hl.1 rfl (lv_room (Nat.le_of_ble_eq_true rfl)) dX11_number_15 ⟨Nat.le_of_ble_eq_true rfl, Nat.le_of_ble_eq_true rfl⟩) (fun r_15 _ H locs hw_15 hP hS => ?_)
    refine lv_iconst (v := 1) hx hb dX11_number_18 (by decide) ?_
    refine lv_iadd hx hb dX11_number_19 ?_
    refine lv_topi (fun t_19 et_19 => ?_)
    first | have hk_19 := kt_addx et_19 (by first | omega | (simp only [kt_c0, kt_c1, kt_c2, kt_c3, kt_c4, kt_c8, kt_c9, kt_cm1, kt_c81, kt_c40, kt_c7, kt_c5, kt_c6, kt_c512, kt_c10, kt_c10000]; omega)) (by first | omega | (simp only [kt_c0, kt_c1, kt_c2, kt_c3, kt_c4, kt_c8, kt_c9, kt_cm1, kt_c81, kt_c40, kt_c7, kt_c5, kt_c6, kt_c512, kt_c10, kt_c10000]; omega)) | obtain ⟨k_19, hk_19, hm_19, hM_19⟩ := kt_addk et_19
    try simp only [kt_c0, kt_c1, kt_c2, kt_c3, kt_c4, kt_c8, kt_c9, kt_cm1, kt_c81, kt_c40, kt_c7, kt_c5, kt_c6, kt_c512, kt_c10, kt_c10000] at hk_19
    refine lv_imul hx hb dX11_number_20 ?_
    refine lv_topi (fun t_20 et_20 => ?_)
    obtain ⟨k_20, hk_20, hm_20, hM_20⟩ := kt_mulxk et_20
    have e19 : t_19.toInt = (ml.toInt * mw.toInt + 1) := by omega
    have hmb := kt_mulr (a := v.toInt) (b := t_19.toInt) (A := 5000) (B := 82) (by omega) (by omega)
    have e20 : t_20.toInt = v.toInt * (ml.toInt * mw.toInt + 1) := by rw [← e19]; omega
    refine lv_aload_n hx hb dX11_number_21 rfl (lv_at hl 2 rfl) ?_
    refine va_get (D := D) (ci := 11) (C := RX11) (T := TX11) (N := 29) hx hb hts iw_X11_number_X11 hown hK hP 0 rfl rfl 13 (by decide) (hts (.fieldLink RX11 30 "KingTableModel" "at" "[I") (List.mem_cons_of_mem _ (List.mem_append_left _ (List.mem_cons_of_mem _ (List.Mem.head _))))) (fun _ h9 => h9) rfl dX11_number_22 ?_
    refine lv_iload_n hx hb dX11_number_25 rfl (lv_at hl 0 rfl) ?_
    have hi_1 : vp_in i 40 := by exact kt_in (by omega) (by omega)
    refine va_iald hx hb hK hP 1 0 rfl rfl hi_1 dX11_number_26 ?_
    refine lv_topi (fun a_26 ea_26 => ?_)
    have ra_26 := hfa.get (kt_in (x := i) (n := P_) (by omega) (by omega))
    rw [← ea_26] at ra_26
    refine lv_iconst (v := (-1)) hx hb dX11_number_27 (by decide) ?_
    refine kt_join (σ := Int32) 44 3 (fun u => [(mx, .inr (11, [.int ml, .int mw, .ref ms, .int mgl, .int mhd, .int mre, .int mag, .int mkt, .int mho, .int mpc, .int msd, .int mki, .ref mk, .ref ma, .ref mo, .ref mg, .ref mm, .ref mt, .int mdn, .int mun, .ref mn, .int mtk, .ref me, .ref mq, .int msv, .ref mwo, .ref md, .ref mf, .ref mr])), (ma, .inl (cI, 40, .inl fa))]) (fun u => [(2, .int i), (1, .int v), (0, .ref mx)]) (fun u => [.int u, .int t_20]) (fun u => (0 ≤ u.toInt ∧ u.toInt ≤ ml.toInt * mw.toInt) ∧ u.toInt = ((kt_dgt ((ml.toInt * mw.toInt).toNat + 1) (fa i.toInt.toNat) : Nat) : Int)) (D := D) (A := A) (H0 := s.heap) (fun u hI H locs hP hD hS ls hl => ?_) (fun j_44 => ?_)
    · obtain ⟨d, rfl⟩ : ∃ z, z = u := ⟨_, rfl⟩
      have hP : va_P D vwCl [(mx, .inr (11, [.int ml, .int mw, .ref ms, .int mgl, .int mhd, .int mre, .int mag, .int mkt, .int mho, .int mpc, .int msd, .int mki, .ref mk, .ref ma, .ref mo, .ref mg, .ref mm, .ref mt, .int mdn, .int mun, .ref mn, .int mtk, .ref me, .ref mq, .int msv, .ref mwo, .ref md, .ref mf, .ref mr])), (ma, .inl (cI, 40, .inl fa))] H := hP
      have hD : va_D A [(mx, .inr (11, [.int ml, .int mw, .ref ms, .int mgl, .int mhd, .int mre, .int mag, .int mkt, .int mho, .int mpc, .int msd, .int mki, .ref mk, .ref ma, .ref mo, .ref mg, .ref mm, .ref mt, .int mdn, .int mun, .ref mn, .int mtk, .ref me, .ref mq, .int msv, .ref mwo, .ref md, .ref mf, .ref mr])), (ma, .inl (cI, 40, .inl fa))] := hD
      have hl : lv_has ls 3 [(2, .int i), (1, .int v), (0, .ref mx)] := hl
      have hI : (0 ≤ d.toInt ∧ d.toInt ≤ ml.toInt * mw.toInt) ∧ d.toInt = ((kt_dgt ((ml.toInt * mw.toInt).toNat + 1) (fa i.toInt.toNat) : Nat) : Int) := hI
      obtain ⟨hd, hdd⟩ := hI
      have hdg := kt_dig (v := v.toInt) (p := kt_pw (ml.toInt * mw.toInt + 1) ((P_ : Int) - 1 - i.toInt).toNat) (d := d.toInt) (B := (ml.toInt * mw.toInt + 1)) hv1 (by omega) (by omega)
      have hmp2 : 0 ≤ v.toInt * (ml.toInt * mw.toInt + 1) := by rw [← e19]; exact hmb.1
      have hdl : v.toInt * (ml.toInt * mw.toInt + 1) ≤ 410000 := by rw [← e19]; omega
      refine lv_iadd hx hb dX11_number_44 ?_
      refine lv_topi (fun t_44 et_44 => ?_)
      first | have hk_44 := kt_addx et_44 (by first | omega | (simp only [kt_c0, kt_c1, kt_c2, kt_c3, kt_c4, kt_c8, kt_c9, kt_cm1, kt_c81, kt_c40, kt_c7, kt_c5, kt_c6, kt_c512, kt_c10, kt_c10000]; omega)) (by first | omega | (simp only [kt_c0, kt_c1, kt_c2, kt_c3, kt_c4, kt_c8, kt_c9, kt_cm1, kt_c81, kt_c40, kt_c7, kt_c5, kt_c6, kt_c512, kt_c10, kt_c10000]; omega)) | obtain ⟨k_44, hk_44, hm_44, hM_44⟩ := kt_addk et_44
      refine lv_istore_n (lv' := [(1, .int t_44), (2, .int i), (0, .ref mx)]) hx hb dX11_number_45 rfl hl (by decide) rfl (fun ls hl => ?_)
      obtain ⟨t_46, et_46⟩ : ∃ y : Int32, y = i + (-1) := ⟨_, rfl⟩
      obtain ⟨k_46, hk_46, hm_46, hM_46⟩ := kt_addk et_46
      try simp only [kt_c0, kt_c1, kt_c2, kt_c3, kt_c4, kt_c8, kt_c9, kt_cm1, kt_c81, kt_c40, kt_c7, kt_c5, kt_c6, kt_c512, kt_c10, kt_c10000] at hk_46
      refine lv_iinc (v := t_46) (lv' := [(2, .int t_46), (1, .int t_44), (0, .ref mx)]) hx hb dX11_number_46 hl (k := 1) rfl (by rw [et_46]; rfl) (by decide) rfl (fun ls hl => ?_)
      refine lv_goto (tgt := 9) hx hb dX11_number_49 (by decide) ?_
      exact ih_9 (t_46, t_44) (by show (-1 ≤ t_46.toInt ∧ t_46.toInt < (P_ : Int) ∧ t_46.toInt + 1 < n_9) ∧ 0 ≤ t_44.toInt ∧ t_44.toInt < kt_pw (ml.toInt * mw.toInt + 1) ((P_ : Int) - 1 - t_46.toInt).toNat ∧ t_44.toInt * ((((ml.toInt * mw.toInt).toNat + 1) ^ (t_46.toInt + 1).toNat : Nat) : Int) + ((kt_pn ((ml.toInt * mw.toInt).toNat + 1) fa (t_46.toInt + 1).toNat : Nat) : Int) = ((kt_pn ((ml.toInt * mw.toInt).toNat + 1) fa P_ : Nat) : Int); exact ⟨by omega, by omega, by rw [show ((P_ : Int) - 1 - t_46.toInt).toNat = ((P_ : Int) - 1 - i.toInt).toNat + 1 by omega]; show t_44.toInt < kt_pw (ml.toInt * mw.toInt + 1) ((P_ : Int) - 1 - i.toInt).toNat * (ml.toInt * mw.toInt + 1); omega, by rw [show (t_46.toInt + 1).toNat = i.toInt.toNat by omega]; rw [show (i.toInt + 1).toNat = i.toInt.toNat + 1 by omega] at hhor; exact kt_horner (b := (ml.toInt * mw.toInt + 1)) (d := d.toInt) (v := v.toInt) (by omega) (by omega) hdd hhor⟩) H _ hP hD hS ls (lv_sub hl [0, 1, 2] rfl)
    refine lv_icmp_ne (tgt := 38) hx hb dX11_number_28 (by decide) (fun c_28 => ?_) (fun c_28 => ?_)
    · have d_28 := c_28
      simp only [kt_lt, kt_le, kt_eq, kt_c0, kt_c1, kt_c2, kt_c3, kt_c4, kt_c8, kt_c9, kt_cm1, kt_c81, kt_c40, kt_c7, kt_c5, kt_c6, kt_c512, kt_c10, kt_c10000] at d_28
      refine lv_aload_n hx hb dX11_number_38 rfl (lv_at hl 2 rfl) ?_
      refine va_get (D := D) (ci := 11) (C := RX11) (T := TX11) (N := 29) hx hb hts iw_X11_number_X11 hown hK hP 0 rfl rfl 13 (by decide) (hts (.fieldLink RX11 30 "KingTableModel" "at" "[I") (List.mem_cons_of_mem _ (List.mem_append_left _ (List.mem_cons_of_mem _ (List.Mem.head _))))) (fun _ h9 => h9) rfl dX11_number_39 ?_
      refine lv_iload_n hx hb dX11_number_42 rfl (lv_at hl 0 rfl) ?_
      have hi_2 : vp_in i 40 := by exact kt_in (by omega) (by omega)
      refine va_iald hx hb hK hP 1 0 rfl rfl hi_2 dX11_number_43 ?_
      refine lv_topi (fun a_43 ea_43 => ?_)
      have ra_43 := hfa.get (kt_in (x := i) (n := P_) (by omega) (by omega))
      rw [← ea_43] at ra_43
      exact j_44 a_43 (by show (0 ≤ a_43.toInt ∧ a_43.toInt ≤ ml.toInt * mw.toInt) ∧ a_43.toInt = ((kt_dgt ((ml.toInt * mw.toInt).toNat + 1) (fa i.toInt.toNat) : Nat) : Int); first | exact ⟨by omega, by rw [show fa i.toInt.toNat = -1 from ea_26.symm.trans c_28, kt_dgt_m1 (by omega)]; omega⟩ | ((have hq43 : a_43.toInt = a_26.toInt := by rw [ea_43, ea_26]); (have hq44 : a_43.toInt = (fa i.toInt.toNat).toInt := congrArg Int32.toInt ea_43); exact ⟨by omega, by rw [kt_dgt_of (by omega)]; exact hq44⟩)) H _ hP hD hS ls (lv_sub hl [0, 1, 2] rfl)
    · have d_28 := c_28
      simp only [kt_lt, kt_le, kt_eq, kt_c0, kt_c1, kt_c2, kt_c3, kt_c4, kt_c8, kt_c9, kt_cm1, kt_c81, kt_c40, kt_c7, kt_c5, kt_c6, kt_c512, kt_c10, kt_c10000] at d_28
      refine lv_aload_n hx hb dX11_number_31 rfl (lv_at hl 2 rfl) ?_
      refine kt_pi (wc := [(mx, .inr (11, [.int ml, .int mw, .ref ms, .int mgl, .int mhd, .int mre, .int mag, .int mkt, .int mho, .int mpc, .int msd, .int mki, .ref mk, .ref ma, .ref mo, .ref mg, .ref mm, .ref mt, .int mdn, .int mun, .ref mn, .int mtk, .ref me, .ref mq, .int msv, .ref mwo, .ref md, .ref mf, .ref mr]))]) [0] hP hD hS hA rfl (by decide) (fun hPc hDc => va_runV (As := []) (rest := [.int t_20]) ⟨hx, hb, hml, hown, hts⟩ (c_X11_fields l D cI cZ cB H.size mx ms mk ma mo mg mm mt mn me mq mwo md mf mr ml mw mgl mhd mre mag mkt mho mpc msd mki mdn mun mtk msv (by first | assumption | omega | rfl | decide) (by first | assumption | omega | rfl | decide)) (cwV 0 hts gX11_number_X11_fields rfl rfl rfl (by decide +kernel) ⟨Nat.le_of_ble_eq_true rfl, Nat.le_of_ble_eq_true rfl⟩) (kt_preV hN hK hPc hDc 0 (ci := 11) (q := (RX11, TX11, 29)) rfl rfl) rfl rfl hl.1 rfl (lv_room (Nat.le_of_ble_eq_true rfl)) dX11_number_32 ⟨Nat.le_of_ble_eq_true rfl, Nat.le_of_ble_eq_true rfl⟩) (fun r_32 _ H locs hw_32 hP hS => ?_)
      refine lv_goto (tgt := 44) hx hb dX11_number_35 (by decide) ?_
      exact j_44 r_32 (by show (0 ≤ r_32.toInt ∧ r_32.toInt ≤ ml.toInt * mw.toInt) ∧ r_32.toInt = ((kt_dgt ((ml.toInt * mw.toInt).toNat + 1) (fa i.toInt.toNat) : Nat) : Int); first | exact ⟨by omega, by rw [show fa i.toInt.toNat = -1 from ea_26.symm.trans c_28, kt_dgt_m1 (by omega)]; omega⟩ | ((have hq43 : a_43.toInt = a_26.toInt := by rw [ea_43, ea_26]); (have hq44 : a_43.toInt = (fa i.toInt.toNat).toInt := congrArg Int32.toInt ea_43); exact ⟨by omega, by rw [kt_dgt_of (by omega)]; exact hq44⟩)) H _ hP hD hS ls (lv_sub hl [0, 1, 2] rfl)

set_option maxHeartbeats 4000000 in
set_option maxRecDepth 100000 in
theorem c_X11_endOfX (l : Launch) (D : va_G) (cI cZ cB : ClassId) (sz : Nat) (mx : Nat) (ms : Nat) (mk : Nat) (ma : Nat) (mo : Nat) (mg : Nat) (mm : Nat) (mt : Nat) (mn : Nat) (me : Nat) (mq : Nat) (mwo : Nat) (md : Nat) (mf : Nat) (mr : Nat) (ml : Int32) (mw : Int32) (mgl : Int32) (mhd : Int32) (mre : Int32) (mag : Int32) (mkt : Int32) (mho : Int32) (mpc : Int32) (msd : Int32) (mki : Int32) (mdn : Int32) (mun : Int32) (mtk : Int32) (msv : Int32) (P_ : Nat) (fa : Nat → Int32) (fo : Nat → Int32) (fr : Nat → Int32) (fk : Nat → Int32) (hml_ : 2 ≤ ml.toInt ∧ ml.toInt ≤ 9) (hmw : 2 ≤ mw.toInt ∧ mw.toInt ≤ 9) (hpc : (P_ : Int) = mpc.toInt ∧ P_ ≤ 40) (hfa : kt_r fa P_ (-1) (ml.toInt * mw.toInt - 1)) (hfo : kt_r fo 81 (-1) ((P_ : Int) - 1)) (hki : 0 ≤ mki.toInt ∧ mki.toInt < (P_ : Int)) (hsd : 0 ≤ msd.toInt ∧ msd.toInt ≤ 1) : kt_Mi l yX11_endOf wsX11_endOf { frames := 4, cells := 0, slots := 0, locals := 98 } D (kt_ty cI cZ cB) [.ref mx] sz [(mx, .inr (11, [.int ml, .int mw, .ref ms, .int mgl, .int mhd, .int mre, .int mag, .int mkt, .int mho, .int mpc, .int msd, .int mki, .ref mk, .ref ma, .ref mo, .ref mg, .ref mm, .ref mt, .int mdn, .int mun, .ref mn, .int mtk, .ref me, .ref mq, .int msv, .ref mwo, .ref md, .ref mf, .ref mr])), (ma, .inl (cI, 40, .inl fa)), (mo, .inl (cI, 81, .inl fo)), (mg, .inl (cI, 81, .inl fr)), (mk, .inl (cI, 40, .inl fk))] (fun (r : Int32) (u : Unit) => kt_WN (fa mki.toNatClampNeg = -1) (kt_goR mgl mw.toInt ml.toInt (fr (fa mki.toNatClampNeg).toNatClampNeg) (fa mki.toNatClampNeg).toInt) (kt_can P_ fo fr fk fa mre.toInt mw.toInt ml.toInt msd.toInt) msd.toInt (if r.toInt = 3 then -1 else r.toInt) ∧ 0 ≤ r.toInt ∧ r.toInt ≤ 3) (fun (u : Unit) => [(mx, .inr (11, [.int ml, .int mw, .ref ms, .int mgl, .int mhd, .int mre, .int mag, .int mkt, .int mho, .int mpc, .int msd, .int mki, .ref mk, .ref ma, .ref mo, .ref mg, .ref mm, .ref mt, .int mdn, .int mun, .ref mn, .int mtk, .ref me, .ref mq, .int msv, .ref mwo, .ref md, .ref mf, .ref mr])), (ma, .inl (cI, 40, .inl fa)), (mo, .inl (cI, 81, .inl fo)), (mg, .inl (cI, 81, .inl fr)), (mk, .inl (cI, 40, .inl fk))]) 0 0 := by
  refine kt_Mi.of (cc := cX11_endOf) (maxL := 1) (ret := some .int) (by decide) rfl (Nat.le_of_ble_eq_true rfl) ?_
  intro p e s m below meth c A ls H hAt hP hD hS hl
  obtain ⟨hx, hb, hr, hml, hown, hts, hN, hK, hlk, hnm, hA⟩ := hAt
  have hl : lv_has ls 1 [(0, .ref mx)] := hl
  have hown : s.vm.findClass RX11 = some m.cls := hown
  have hsb := kt_mulb hml_ hmw
  have hkr_ := hfa.get (kt_in (x := mki) (n := P_) (by omega) (by omega))
  refine lv_aload_n hx hb dX11_endOf_0 rfl (lv_at hl 0 rfl) ?_
  refine va_get (D := D) (ci := 11) (C := RX11) (T := TX11) (N := 29) hx hb hts iw_X11_endOf_X11 hown hK hP 0 rfl rfl 13 (by decide) (hts (.fieldLink RX11 30 "KingTableModel" "at" "[I") (kt_wp_X11_endOf__X11_endOf_r1 kt_wm0)) (fun _ h9 => h9) rfl dX11_endOf_1 ?_
  refine lv_aload_n hx hb dX11_endOf_4 rfl (lv_at hl 0 rfl) ?_
  refine va_get (D := D) (ci := 11) (C := RX11) (T := TX11) (N := 29) hx hb hts iw_X11_endOf_X11 hown hK hP 0 rfl rfl 11 (by decide) (hts (.fieldLink RX11 135 "KingTableModel" "king" "I") (kt_wp_X11_endOf__X11_endOf_r1 kt_wm1)) (fun _ h9 => h9) rfl dX11_endOf_5 ?_
  have hi_1 : vp_in mki 40 := by exact kt_in (by omega) (by omega)
  refine va_iald hx hb hK hP 1 0 rfl rfl hi_1 dX11_endOf_8 ?_
  refine lv_topi (fun a_8 ea_8 => ?_)
  have ra_8 := hfa.get (kt_in (x := mki) (n := P_) (by omega) (by omega))
  rw [← ea_8] at ra_8
  have e8 : a_8 = fa mki.toNatClampNeg := ea_8
  refine lv_iconst (v := (-1)) hx hb dX11_endOf_9 (by decide) ?_
  refine lv_icmp_ne (tgt := 17) hx hb dX11_endOf_10 (by decide) (fun c_10 => ?_) (fun c_10 => ?_)
  · have d_10 := c_10
    simp only [kt_lt, kt_le, kt_eq, kt_c0, kt_c1, kt_c2, kt_c3, kt_c4, kt_c8, kt_c9, kt_cm1, kt_c81, kt_c40, kt_c7, kt_c5, kt_c6, kt_c512, kt_c10, kt_c10000] at d_10
    have hnk : ¬ fa mki.toNatClampNeg = -1 := fun h => c_10 (e8.trans h)
    have hnk2 : ¬ (fa mki.toNatClampNeg).toInt = -1 := fun h => hnk ((kt_eq _ _).mpr (h.trans kt_cm1.symm))
    refine lv_aload_n hx hb dX11_endOf_17 rfl (lv_at hl 0 rfl) ?_
    refine lv_aload_n hx hb dX11_endOf_18 rfl (lv_at hl 0 rfl) ?_
    refine va_get (D := D) (ci := 11) (C := RX11) (T := TX11) (N := 29) hx hb hts iw_X11_endOf_X11 hown hK hP 0 rfl rfl 13 (by decide) (hts (.fieldLink RX11 30 "KingTableModel" "at" "[I") (kt_wp_X11_endOf__X11_endOf_r1 kt_wm0)) (fun _ h9 => h9) rfl dX11_endOf_19 ?_
    refine lv_aload_n hx hb dX11_endOf_22 rfl (lv_at hl 0 rfl) ?_
    refine va_get (D := D) (ci := 11) (C := RX11) (T := TX11) (N := 29) hx hb hts iw_X11_endOf_X11 hown hK hP 0 rfl rfl 11 (by decide) (hts (.fieldLink RX11 135 "KingTableModel" "king" "I") (kt_wp_X11_endOf__X11_endOf_r1 kt_wm1)) (fun _ h9 => h9) rfl dX11_endOf_23 ?_
    have hi_2 : vp_in mki 40 := by exact kt_in (by omega) (by omega)
    refine va_iald hx hb hK hP 1 0 rfl rfl hi_2 dX11_endOf_26 ?_
    refine lv_topi (fun a_26 ea_26 => ?_)
    have ra_26 := hfa.get (kt_in (x := mki) (n := P_) (by omega) (by omega))
    rw [← ea_26] at ra_26
    have i26 : a_26.toInt = (fa mki.toNatClampNeg).toInt := congrArg Int32.toInt ea_26
    refine kt_pi (wc := [(mx, .inr (11, [.int ml, .int mw, .ref ms, .int mgl, .int mhd, .int mre, .int mag, .int mkt, .int mho, .int mpc, .int msd, .int mki, .ref mk, .ref ma, .ref mo, .ref mg, .ref mm, .ref mt, .int mdn, .int mun, .ref mn, .int mtk, .ref me, .ref mq, .int msv, .ref mwo, .ref md, .ref mf, .ref mr])), (mg, .inl (cI, 81, .inl fr))]) [0, 3] hP hD hS hA rfl (by decide) (fun hPc hDc => va_runV (As := [.int a_26]) (rest := []) ⟨hx, hb, hml, hown, hts⟩ (c_X11_isGoalE l D cI cZ cB H.size mx ms mk ma mo mg mm mt mn me mq mwo md mf mr ml mw mgl mhd mre mag mkt mho mpc msd mki mdn mun mtk msv fr a_26 hml_ hmw (by omega)) (cwV 1 hts gX11_endOf_X11_isGoal rfl rfl rfl (by decide +kernel) ⟨Nat.le_of_ble_eq_true rfl, Nat.le_of_ble_eq_true rfl⟩) (kt_preV hN hK hPc hDc 0 (ci := 11) (q := (RX11, TX11, 29)) rfl rfl) rfl rfl hl.1 rfl (lv_room (Nat.le_of_ble_eq_true rfl)) dX11_endOf_27 ⟨Nat.le_of_ble_eq_true rfl, Nat.le_of_ble_eq_true rfl⟩) (fun r_27 _ H locs hw_27 hP hS => ?_)
    rw [ea_26] at hw_27
    refine lv_if_eq (tgt := 37) hx hb dX11_endOf_30 (by decide) (fun c_30 => ?_) (fun c_30 => ?_)
    · have d_30 := c_30
      simp only [kt_lt, kt_le, kt_eq, kt_c0, kt_c1, kt_c2, kt_c3, kt_c4, kt_c8, kt_c9, kt_cm1, kt_c81, kt_c40, kt_c7, kt_c5, kt_c6, kt_c512, kt_c10, kt_c10000] at d_30
      refine lv_aload_n hx hb dX11_endOf_37 rfl (lv_at hl 0 rfl) ?_
      refine lv_aload_n hx hb dX11_endOf_38 rfl (lv_at hl 0 rfl) ?_
      refine va_get (D := D) (ci := 11) (C := RX11) (T := TX11) (N := 29) hx hb hts iw_X11_endOf_X11 hown hK hP 0 rfl rfl 10 (by decide) (hts (.fieldLink RX11 126 "KingTableModel" "side" "I") (kt_wp_X11_endOf__X11_endOf_r1 kt_wm2)) (fun _ h9 => h9) rfl dX11_endOf_39 ?_
      refine kt_pi (wc := [(mx, .inr (11, [.int ml, .int mw, .ref ms, .int mgl, .int mhd, .int mre, .int mag, .int mkt, .int mho, .int mpc, .int msd, .int mki, .ref mk, .ref ma, .ref mo, .ref mg, .ref mm, .ref mt, .int mdn, .int mun, .ref mn, .int mtk, .ref me, .ref mq, .int msv, .ref mwo, .ref md, .ref mf, .ref mr])), (ma, .inl (cI, 40, .inl fa)), (mo, .inl (cI, 81, .inl fo)), (mg, .inl (cI, 81, .inl fr)), (mk, .inl (cI, 40, .inl fk))]) [0, 1, 2, 3, 4] hP hD hS hA rfl (by decide) (fun hPc hDc => va_runV (As := [.int msd]) (rest := []) ⟨hx, hb, hml, hown, hts⟩ (c_X11_canGoX l D cI cZ cB H.size mx ms mk ma mo mg mm mt mn me mq mwo md mf mr ml mw mgl mhd mre mag mkt mho mpc msd mki mdn mun mtk msv P_ fa fo fr fk msd hml_ hmw hpc hfa hfo) (cwV 1 hts gX11_endOf_X11_canGo rfl rfl rfl (by decide +kernel) ⟨Nat.le_of_ble_eq_true rfl, Nat.le_of_ble_eq_true rfl⟩) (kt_preV hN hK hPc hDc 0 (ci := 11) (q := (RX11, TX11, 29)) rfl rfl) rfl rfl hl.1 rfl (lv_room (Nat.le_of_ble_eq_true rfl)) dX11_endOf_42 ⟨Nat.le_of_ble_eq_true rfl, Nat.le_of_ble_eq_true rfl⟩) (fun r_42 _ H locs hw_42 hP hS => ?_)
      
      refine lv_if_eq (tgt := 52) hx hb dX11_endOf_45 (by decide) (fun c_45 => ?_) (fun c_45 => ?_)
      · have d_45 := c_45
        simp only [kt_lt, kt_le, kt_eq, kt_c0, kt_c1, kt_c2, kt_c3, kt_c4, kt_c8, kt_c9, kt_cm1, kt_c81, kt_c40, kt_c7, kt_c5, kt_c6, kt_c512, kt_c10, kt_c10000] at d_45
        refine lv_iconst (v := 1) hx hb dX11_endOf_52 (by decide) ?_
        refine lv_aload_n hx hb dX11_endOf_53 rfl (lv_at hl 0 rfl) ?_
        refine va_get (D := D) (ci := 11) (C := RX11) (T := TX11) (N := 29) hx hb hts iw_X11_endOf_X11 hown hK hP 0 rfl rfl 10 (by decide) (hts (.fieldLink RX11 126 "KingTableModel" "side" "I") (kt_wp_X11_endOf__X11_endOf_r1 kt_wm2)) (fun _ h9 => h9) rfl dX11_endOf_54 ?_
        refine lv_isub hx hb dX11_endOf_57 ?_
        refine lv_topi (fun t_57 et_57 => ?_)
        first | have hk_57 := kt_subx et_57 (by first | omega | (simp only [kt_c0, kt_c1, kt_c2, kt_c3, kt_c4, kt_c8, kt_c9, kt_cm1, kt_c81, kt_c40, kt_c7, kt_c5, kt_c6, kt_c512, kt_c10, kt_c10000]; omega)) (by first | omega | (simp only [kt_c0, kt_c1, kt_c2, kt_c3, kt_c4, kt_c8, kt_c9, kt_cm1, kt_c81, kt_c40, kt_c7, kt_c5, kt_c6, kt_c512, kt_c10, kt_c10000]; omega)) | obtain ⟨k_57, hk_57, hm_57, hM_57⟩ := kt_subk et_57
        try simp only [kt_c0, kt_c1, kt_c2, kt_c3, kt_c4, kt_c8, kt_c9, kt_cm1, kt_c81, kt_c40, kt_c7, kt_c5, kt_c6, kt_c512, kt_c10, kt_c10000] at hk_57
        exact kt_ri () hx hb hr hlk hS dX11_endOf_58 hP hD (by show kt_WN (fa mki.toNatClampNeg = -1) (kt_goR mgl mw.toInt ml.toInt (fr (fa mki.toNatClampNeg).toNatClampNeg) (fa mki.toNatClampNeg).toInt) (kt_can P_ fo fr fk fa mre.toInt mw.toInt ml.toInt msd.toInt) msd.toInt (if t_57.toInt = 3 then -1 else t_57.toInt) ∧ 0 ≤ t_57.toInt ∧ t_57.toInt ≤ 3; first
             | exact ⟨Or.inl ⟨e8.symm.trans c_10, by decide⟩, by decide⟩
             | exact ⟨Or.inr (Or.inl ⟨hnk, hw_27.t c_30, by decide⟩), by decide⟩
             | exact ⟨Or.inr (Or.inr (Or.inl ⟨hnk, hw_27.f c_30, hw_42.t c_45, by decide⟩)), by decide⟩
             | exact ⟨Or.inr (Or.inr (Or.inr ⟨hnk, hw_27.f c_30, hw_42.f c_45, by rw [if_neg (by omega)]; omega⟩)), by omega⟩)
      · have d_45 := c_45
        simp only [kt_lt, kt_le, kt_eq, kt_c0, kt_c1, kt_c2, kt_c3, kt_c4, kt_c8, kt_c9, kt_cm1, kt_c81, kt_c40, kt_c7, kt_c5, kt_c6, kt_c512, kt_c10, kt_c10000] at d_45
        refine lv_iconst (v := 3) hx hb dX11_endOf_48 (by decide) ?_
        refine lv_goto (tgt := 58) hx hb dX11_endOf_49 (by decide) ?_
        exact kt_ri () hx hb hr hlk hS dX11_endOf_58 hP hD (by show kt_WN (fa mki.toNatClampNeg = -1) (kt_goR mgl mw.toInt ml.toInt (fr (fa mki.toNatClampNeg).toNatClampNeg) (fa mki.toNatClampNeg).toInt) (kt_can P_ fo fr fk fa mre.toInt mw.toInt ml.toInt msd.toInt) msd.toInt (if (3 : Int32).toInt = 3 then -1 else (3 : Int32).toInt) ∧ 0 ≤ (3 : Int32).toInt ∧ (3 : Int32).toInt ≤ 3; first
             | exact ⟨Or.inl ⟨e8.symm.trans c_10, by decide⟩, by decide⟩
             | exact ⟨Or.inr (Or.inl ⟨hnk, hw_27.t c_30, by decide⟩), by decide⟩
             | exact ⟨Or.inr (Or.inr (Or.inl ⟨hnk, hw_27.f c_30, hw_42.t c_45, by decide⟩)), by decide⟩
             | exact ⟨Or.inr (Or.inr (Or.inr ⟨hnk, hw_27.f c_30, hw_42.f c_45, by rw [if_neg (by omega)]; omega⟩)), by omega⟩)
    · have d_30 := c_30
      simp only [kt_lt, kt_le, kt_eq, kt_c0, kt_c1, kt_c2, kt_c3, kt_c4, kt_c8, kt_c9, kt_cm1, kt_c81, kt_c40, kt_c7, kt_c5, kt_c6, kt_c512, kt_c10, kt_c10000] at d_30
      refine lv_iconst (v := 0) hx hb dX11_endOf_33 (by decide) ?_
      refine lv_goto (tgt := 58) hx hb dX11_endOf_34 (by decide) ?_
      exact kt_ri () hx hb hr hlk hS dX11_endOf_58 hP hD (by show kt_WN (fa mki.toNatClampNeg = -1) (kt_goR mgl mw.toInt ml.toInt (fr (fa mki.toNatClampNeg).toNatClampNeg) (fa mki.toNatClampNeg).toInt) (kt_can P_ fo fr fk fa mre.toInt mw.toInt ml.toInt msd.toInt) msd.toInt (if (0 : Int32).toInt = 3 then -1 else (0 : Int32).toInt) ∧ 0 ≤ (0 : Int32).toInt ∧ (0 : Int32).toInt ≤ 3; first
           | exact ⟨Or.inl ⟨e8.symm.trans c_10, by decide⟩, by decide⟩
           | exact ⟨Or.inr (Or.inl ⟨hnk, hw_27.t c_30, by decide⟩), by decide⟩
           | exact ⟨Or.inr (Or.inr (Or.inl ⟨hnk, hw_27.f c_30, hw_42.t c_45, by decide⟩)), by decide⟩
           | exact ⟨Or.inr (Or.inr (Or.inr ⟨hnk, hw_27.f c_30, hw_42.f c_45, by rw [if_neg (by omega)]; omega⟩)), by omega⟩)
  · have d_10 := c_10
    simp only [kt_lt, kt_le, kt_eq, kt_c0, kt_c1, kt_c2, kt_c3, kt_c4, kt_c8, kt_c9, kt_cm1, kt_c81, kt_c40, kt_c7, kt_c5, kt_c6, kt_c512, kt_c10, kt_c10000] at d_10
    refine lv_iconst (v := 1) hx hb dX11_endOf_13 (by decide) ?_
    refine lv_goto (tgt := 58) hx hb dX11_endOf_14 (by decide) ?_
    exact kt_ri () hx hb hr hlk hS dX11_endOf_58 hP hD (by show kt_WN (fa mki.toNatClampNeg = -1) (kt_goR mgl mw.toInt ml.toInt (fr (fa mki.toNatClampNeg).toNatClampNeg) (fa mki.toNatClampNeg).toInt) (kt_can P_ fo fr fk fa mre.toInt mw.toInt ml.toInt msd.toInt) msd.toInt (if (1 : Int32).toInt = 3 then -1 else (1 : Int32).toInt) ∧ 0 ≤ (1 : Int32).toInt ∧ (1 : Int32).toInt ≤ 3; first
         | exact ⟨Or.inl ⟨e8.symm.trans c_10, by decide⟩, by decide⟩
         | exact ⟨Or.inr (Or.inl ⟨hnk, hw_27.t c_30, by decide⟩), by decide⟩
         | exact ⟨Or.inr (Or.inr (Or.inl ⟨hnk, hw_27.f c_30, hw_42.t c_45, by decide⟩)), by decide⟩
         | exact ⟨Or.inr (Or.inr (Or.inr ⟨hnk, hw_27.f c_30, hw_42.f c_45, by rw [if_neg (by omega)]; omega⟩)), by omega⟩)
