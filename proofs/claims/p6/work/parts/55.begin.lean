theorem kt_sK {s v : Int32} (h : (v = 1 ∧ (s = 2 ∨ s = 7)) ∨ (v = 0 ∧ ¬ (s = 2 ∨ s = 7))) : v = if kt_iK s = true then 1 else 0 := by
  unfold kt_iK
  refine kt_dt ?_
  have e : kt_kd s = 2 ↔ (s = 2 ∨ s = 7) := by
    unfold kt_kd
    by_cases h7 : s = 7
    · rw [if_pos h7]; exact ⟨fun _ => Or.inr h7, fun _ => rfl⟩
    · rw [if_neg h7]
      split
      · exact ⟨fun h => Or.inl h, fun h => h.elim id (fun h => absurd h h7)⟩
      · rename_i hn
        refine ⟨fun h => absurd h (by decide), fun h => h.elim (fun h => ?_) (fun h => absurd h h7)⟩
        exact absurd (by rw [h]; decide) hn
  rw [e]; exact h
theorem kt_sR {s v : Int32} (h : (v = 1 ∧ (s = 3 ∨ s = 4)) ∨ (v = 0 ∧ ¬ (s = 3 ∨ s = 4))) : v = if kt_iR s = true then 1 else 0 := by
  unfold kt_iR
  refine kt_dt ?_
  have e : (kt_kd s = 3 ∨ kt_kd s = 4) ↔ (s = 3 ∨ s = 4) := by
    unfold kt_kd
    by_cases h7 : s = 7
    · rw [if_pos h7, h7]; decide
    · rw [if_neg h7]
      split
      · exact Iff.rfl
      · rename_i hn
        refine ⟨fun h => h.elim (fun h => absurd h (by decide)) (fun h => absurd h (by decide)), fun h => absurd ?_ hn⟩
        rcases h with h | h <;> (rw [h]; decide)
  rw [e]; exact h
theorem kt_sT {s v : Int32} (h : (v = 1 ∧ (s = 5 ∨ s = 7)) ∨ (v = 0 ∧ ¬ (s = 5 ∨ s = 7))) : v = if kt_iT s = true then 1 else 0 := by
  unfold kt_iT
  refine kt_dt ?_
  have e : kt_tp s = 1 ↔ (s = 5 ∨ s = 7) := by
    unfold kt_tp
    split
    · rename_i hh; exact ⟨fun _ => hh, fun _ => rfl⟩
    · rename_i hh
      split
      · exact ⟨fun h => absurd h (by decide), fun h => absurd h hh⟩
      · exact ⟨fun h => absurd h (by decide), fun h => absurd h hh⟩
  rw [e]; exact h
theorem kt_sP' {s : Int32} (hs : 0 ≤ s.toInt ∧ s.toInt ≤ 7) : ¬ kt_kd s = 0 ↔ (¬ s = 0 ∧ ¬ s = 5 ∧ ¬ s = 6) := by
  rcases (show s.toInt = 0 ∨ s.toInt = 1 ∨ s.toInt = 2 ∨ s.toInt = 3 ∨ s.toInt = 4 ∨ s.toInt = 5 ∨ s.toInt = 6 ∨ s.toInt = 7 by omega) with h | h | h | h | h | h | h | h
  · rw [show s = 0 from (kt_eq s 0).mpr h]; decide
  · rw [show s = 1 from (kt_eq s 1).mpr h]; decide
  · rw [show s = 2 from (kt_eq s 2).mpr h]; decide
  · rw [show s = 3 from (kt_eq s 3).mpr h]; decide
  · rw [show s = 4 from (kt_eq s 4).mpr h]; decide
  · rw [show s = 5 from (kt_eq s 5).mpr h]; decide
  · rw [show s = 6 from (kt_eq s 6).mpr h]; decide
  · rw [show s = 7 from (kt_eq s 7).mpr h]; decide
theorem kt_sP {s v : Int32} (hs : 0 ≤ s.toInt ∧ s.toInt ≤ 7) (h : (v = 1 ∧ (¬ s = 0 ∧ ¬ s = 5 ∧ ¬ s = 6)) ∨ (v = 0 ∧ ¬ (¬ s = 0 ∧ ¬ s = 5 ∧ ¬ s = 6))) : v = if kt_iP s = true then 1 else 0 := by
  unfold kt_iP
  refine kt_dt ?_
  rw [kt_sP' hs]; exact h
/-- the signs of the board, nothing beyond it -/
def kt_bs (fs : Nat → Int32) (N : Nat) : Nat → Int32 := fun f => if f < N then fs f else 0
theorem kt_bs_ct {P : Int32 → Bool} {fs : Nat → Int32} {N : Nat} (h0 : P 0 = false) : ∀ n, N ≤ n → kt_ct P (kt_bs fs N) n = kt_ct P fs N := by
  have hle : ∀ n, n ≤ N → kt_ct P (kt_bs fs N) n = kt_ct P fs n := fun n hn => kt_ct_cong (fun j hj => by unfold kt_bs; rw [if_pos (by omega)])
  intro n hn
  induction n with
  | zero => exact hle 0 (by omega) |>.trans (by rw [show N = 0 by omega])
  | succ n ih =>
    by_cases e : N ≤ n
    · rw [kt_ct_no (by unfold kt_bs; rw [if_neg (by omega), h0]; decide)]
      exact ih e
    · have : N = n + 1 := by omega
      rw [hle _ (by omega), this]

theorem kt_PI.init {ml mw mpc msd mki mkt mhd : Int32} {fr fk fa fo mv gs : Nat → Int32} {P : Nat} (h1 : (P : Int) = mpc.toInt ∧ P ≤ 40) (h2 : 0 ≤ mki.toInt ∧ mki.toInt < (P : Int)) (h3 : 0 ≤ msd.toInt ∧ msd.toInt ≤ 1) (hf : kt_r fa P (-1) (ml.toInt * mw.toInt - 1) ∧ kt_con fo fa P ∧ kt_coc fo fa P) (hrow : kt_row gs 0 P (ml.toInt * mw.toInt)) (hg : ∀ p, p < P → gs p = fa p) : kt_PI ml mw mpc msd mki 0 0 mkt mhd fr fk fa fo mv gs P := by
  have e0 : kt_cut P gs = kt_cut P fa := kt_cut_eq hg
  refine ⟨⟨h1, h2, h3, by decide, by decide⟩, hf, by rw [e0]; exact hf.2.2.inj h1.2, fun n hn => ?_, e0.symm, fun k hk => ?_⟩
  · rw [kt_c0] at hn
    have : n = 0 := by omega
    subst this
    exact ⟨hrow, kt_cut_eq (fun j hj => by rw [Nat.mul_zero, Nat.zero_add])⟩
  · rw [kt_c0] at hk
    omega

theorem iw_X11_begin_X11 : ∀ w ∈ wsX110, w ∈ wsX11_begin := fun _ h => kt_wp_X11_begin__X110 h
set_option maxHeartbeats 4000000 in
set_option maxRecDepth 100000 in
theorem c_X11_begin (l : Launch) (D : va_G) (cI cZ cB : ClassId) (sz : Nat) (mx : Nat) (ms : Nat) (mk : Nat) (ma : Nat) (mo : Nat) (mg : Nat) (mm : Nat) (mt : Nat) (mn : Nat) (me : Nat) (mq : Nat) (mwo : Nat) (md : Nat) (mf : Nat) (mr : Nat) (ml : Int32) (mw : Int32) (mgl : Int32) (mhd : Int32) (mre : Int32) (mag : Int32) (mkt : Int32) (mho : Int32) (mpc : Int32) (msd : Int32) (mki : Int32) (mdn : Int32) (mun : Int32) (mtk : Int32) (msv : Int32) (fs : Nat → Int32) (fk : Nat → Int32) (fa : Nat → Int32) (fo : Nat → Int32) (fr : Nat → Int32) (gs_ : Nat → Int32) (mv : Nat → Int32) (p1 : Int32) (hml_ : 2 ≤ ml.toInt ∧ ml.toInt ≤ 9) (hmw : 2 ≤ mw.toInt ∧ mw.toInt ≤ 9) (hho : 0 ≤ mho.toInt ∧ mho.toInt ≤ 4) (hfs : kt_r fs 81 0 7) : kt_Mi l yX11_begin wsX11_begin { frames := 4, cells := 0, slots := 0, locals := 98 } D (kt_ty cI cZ cB) [.ref mx, .int p1] sz [(mx, .inr (11, [.int ml, .int mw, .ref ms, .int mgl, .int mhd, .int mre, .int mag, .int mkt, .int mho, .int mpc, .int msd, .int mki, .ref mk, .ref ma, .ref mo, .ref mg, .ref mm, .ref mt, .int mdn, .int mun, .ref mn, .int mtk, .ref me, .ref mq, .int msv, .ref mwo, .ref md, .ref mf, .ref mr])), (ms, .inl (cI, 81, .inl fs)), (mk, .inl (cI, 40, .inl fk)), (ma, .inl (cI, 40, .inl fa)), (mo, .inl (cI, 81, .inl fo)), (mg, .inl (cI, 81, .inl fr)), (mt, .inl (cB, 172241, .inl gs_))] (fun (r : Int32) (u : Int32 × Int32 × Int32 × Int32 × Int32 × Int32 × Int32 × Int32 × (Nat → Int32) × (Nat → Int32) × (Nat → Int32) × (Nat → Int32) × (Nat → Int32)) => (r.toInt = -1 ∧ ¬ (mho.toInt = 0 ∧ (p1.toInt = 0 ∨ p1.toInt = 1) ∧ kt_ok fs (kt_sz ml mw)) ∧ u.1 = mho ∧ u.2.1 = mpc ∧ u.2.2.1 = msd ∧ u.2.2.2.1 = mki ∧ u.2.2.2.2.1 = mdn ∧ u.2.2.2.2.2.1 = mun ∧ u.2.2.2.2.2.2.1 = mtk ∧ u.2.2.2.2.2.2.2.1 = msv ∧ u.2.2.2.2.2.2.2.2.1 = fk ∧ u.2.2.2.2.2.2.2.2.2.1 = fa ∧ u.2.2.2.2.2.2.2.2.2.2.1 = fo ∧ u.2.2.2.2.2.2.2.2.2.2.2.1 = fr ∧ u.2.2.2.2.2.2.2.2.2.2.2.2 = gs_) ∨ ((mho.toInt = 0 ∧ (p1.toInt = 0 ∨ p1.toInt = 1) ∧ kt_ok fs (kt_sz ml mw)) ∧ r = nI (kt_ct kt_iP fs (kt_sz ml mw)) ∧ (1 ≤ u.1.toInt ∧ u.1.toInt ≤ 3) ∧ (u.2.2.2.2.1 = 0 ∧ u.2.2.2.2.2.1 = 0 ∧ u.2.2.2.2.2.2.2.1 = 0 ∧ u.2.1 = r) ∧ kt_PI ml mw u.2.1 u.2.2.1 u.2.2.2.1 u.2.2.2.2.1 u.2.2.2.2.2.1 mkt mhd u.2.2.2.2.2.2.2.2.2.2.2.1 u.2.2.2.2.2.2.2.2.1 u.2.2.2.2.2.2.2.2.2.1 u.2.2.2.2.2.2.2.2.2.2.1 mv u.2.2.2.2.2.2.2.2.2.2.2.2 (kt_ct kt_iP fs (kt_sz ml mw)))) (fun (u : Int32 × Int32 × Int32 × Int32 × Int32 × Int32 × Int32 × Int32 × (Nat → Int32) × (Nat → Int32) × (Nat → Int32) × (Nat → Int32) × (Nat → Int32)) => [(mx, .inr (11, [.int ml, .int mw, .ref ms, .int mgl, .int mhd, .int mre, .int mag, .int mkt, .int u.1, .int u.2.1, .int u.2.2.1, .int u.2.2.2.1, .ref mk, .ref ma, .ref mo, .ref mg, .ref mm, .ref mt, .int u.2.2.2.2.1, .int u.2.2.2.2.2.1, .ref mn, .int u.2.2.2.2.2.2.1, .ref me, .ref mq, .int u.2.2.2.2.2.2.2.1, .ref mwo, .ref md, .ref mf, .ref mr])), (ms, .inl (cI, 81, .inl fs)), (mk, .inl (cI, 40, .inl u.2.2.2.2.2.2.2.2.1)), (ma, .inl (cI, 40, .inl u.2.2.2.2.2.2.2.2.2.1)), (mo, .inl (cI, 81, .inl u.2.2.2.2.2.2.2.2.2.2.1)), (mg, .inl (cI, 81, .inl u.2.2.2.2.2.2.2.2.2.2.2.1)), (mt, .inl (cB, 172241, .inl u.2.2.2.2.2.2.2.2.2.2.2.2))]) 0 0 := by
  refine kt_Mi.of (cc := cX11_begin) (maxL := 8) (ret := some .int) (by decide) rfl (Nat.le_of_ble_eq_true rfl) ?_
  intro p e s m below meth c A ls H hAt hP hD hS hl
  obtain ⟨hx, hb, hr, hml, hown, hts, hN, hK, hlk, hnm, hA⟩ := hAt
  have hl : lv_has ls 8 [(0, .ref mx), (1, .int p1)] := hl
  have hown : s.vm.findClass RX11 = some m.cls := hown
  have hsb := kt_mulb hml_ hmw
  have hszi : ((kt_sz ml mw : Nat) : Int) = ml.toInt * mw.toInt := by unfold kt_sz; omega
  refine lv_aload_n hx hb dX11_begin_0 rfl (lv_at hl 0 rfl) ?_
  refine va_get (D := D) (ci := 11) (C := RX11) (T := TX11) (N := 29) hx hb hts iw_X11_begin_X11 hown hK hP 0 rfl rfl 8 (by decide) (hts (.fieldLink RX11 73 "KingTableModel" "how" "I") (kt_wp_X11_begin__X11_begin_r1 kt_wm0)) (fun _ h9 => h9) rfl dX11_begin_1 ?_
  refine lv_if_gt (tgt := 16) hx hb dX11_begin_4 (by decide) (fun c_4 => ?_) (fun c_4 => ?_)
  · have d_4 := c_4
    simp only [kt_lt, kt_le, kt_eq, kt_c0, kt_c1, kt_c2, kt_c3, kt_c4, kt_c8, kt_c9, kt_cm1, kt_c81, kt_c40, kt_c7, kt_c5, kt_c6, kt_c512, kt_c10, kt_c10000] at d_4
    refine lv_iconst (v := (-1)) hx hb dX11_begin_16 (by decide) ?_
    exact kt_ri (mho, mpc, msd, mki, mdn, mun, mtk, msv, fk, fa, fo, fr, gs_) hx hb hr hlk hS dX11_begin_17 hP hD (by show ((-1 : Int32).toInt = -1 ∧ ¬ (mho.toInt = 0 ∧ (p1.toInt = 0 ∨ p1.toInt = 1) ∧ kt_ok fs (kt_sz ml mw)) ∧ mho = mho ∧ mpc = mpc ∧ msd = msd ∧ mki = mki ∧ mdn = mdn ∧ mun = mun ∧ mtk = mtk ∧ msv = msv ∧ fk = fk ∧ fa = fa ∧ fo = fo ∧ fr = fr ∧ gs_ = gs_) ∨ ((mho.toInt = 0 ∧ (p1.toInt = 0 ∨ p1.toInt = 1) ∧ kt_ok fs (kt_sz ml mw)) ∧ (-1 : Int32) = nI (kt_ct kt_iP fs (kt_sz ml mw)) ∧ (1 ≤ mho.toInt ∧ mho.toInt ≤ 3) ∧ (mdn = 0 ∧ mun = 0 ∧ msv = 0 ∧ mpc = (-1 : Int32)) ∧ kt_PI ml mw mpc msd mki mdn mun mkt mhd fr fk fa fo mv gs_ (kt_ct kt_iP fs (kt_sz ml mw))); first
         | exact Or.inl ⟨by decide, fun h => by omega, rfl, rfl, rfl, rfl, rfl, rfl, rfl, rfl, rfl, rfl, rfl, rfl, rfl⟩
         | exact Or.inl ⟨by decide, fun h => (hw_10.f c_13) (by omega), rfl, rfl, rfl, rfl, rfl, rfl, rfl, rfl, rfl, rfl, rfl, rfl, rfl⟩
         | exact Or.inl ⟨by decide, fun h => by have h9 := h.2.2; unfold kt_ok at h9; omega, rfl, rfl, rfl, rfl, rfl, rfl, rfl, rfl, rfl, rfl, rfl, rfl, rfl⟩
         | exact Or.inr ⟨⟨by omega, by omega, hok⟩, hpx, by first | decide | omega, ⟨rfl, rfl, rfl, rfl⟩, hpin⟩)
  · have d_4 := c_4
    simp only [kt_lt, kt_le, kt_eq, kt_c0, kt_c1, kt_c2, kt_c3, kt_c4, kt_c8, kt_c9, kt_cm1, kt_c81, kt_c40, kt_c7, kt_c5, kt_c6, kt_c512, kt_c10, kt_c10000] at d_4
    refine lv_iload_n hx hb dX11_begin_7 rfl (lv_at hl 1 rfl) ?_
    refine lv_iconst (v := 0) hx hb dX11_begin_8 (by decide) ?_
    refine lv_iconst (v := 1) hx hb dX11_begin_9 (by decide) ?_
    refine kt_pi (wc := []) [] hP hD hS hA rfl (by decide) (fun hPc hDc => va_runS (As := [.int p1, .int 0, .int 1]) (rest := []) ⟨hx, hb, hml, hown, hts⟩ (c_X11_isIn l D cI cZ cB H.size p1 0 1 ) (va_cwS 3 hts gX11_begin_X11_isIn rfl rfl rfl (by decide +kernel) ⟨Nat.le_of_ble_eq_true rfl, Nat.le_of_ble_eq_true rfl⟩) (kt_preS hN hK hPc hDc) rfl rfl hl.1 rfl (lv_room (Nat.le_of_ble_eq_true rfl)) dX11_begin_10 ⟨Nat.le_of_ble_eq_true rfl, Nat.le_of_ble_eq_true rfl⟩) (fun r_10 _ H locs hw_10 hP hS => ?_)
    simp only [kt_c0, kt_c1] at hw_10
    refine lv_if_ne (tgt := 18) hx hb dX11_begin_13 (by decide) (fun c_13 => ?_) (fun c_13 => ?_)
    · have d_13 := c_13
      simp only [kt_lt, kt_le, kt_eq, kt_c0, kt_c1, kt_c2, kt_c3, kt_c4, kt_c8, kt_c9, kt_cm1, kt_c81, kt_c40, kt_c7, kt_c5, kt_c6, kt_c512, kt_c10, kt_c10000] at d_13
      have hs1 := hw_10.t c_13
      refine lv_iconst (v := 0) hx hb dX11_begin_18 (by decide) ?_
      refine lv_istore_n (lv' := [(2, .int 0), (0, .ref mx), (1, .int p1)]) hx hb dX11_begin_19 rfl hl (by decide) rfl (fun ls hl => ?_)
      refine lv_iconst (v := 0) hx hb dX11_begin_20 (by decide) ?_
      refine lv_istore_n (lv' := [(3, .int 0), (2, .int 0), (0, .ref mx), (1, .int p1)]) hx hb dX11_begin_21 rfl hl (by decide) rfl (fun ls hl => ?_)
      refine lv_iconst (v := 0) hx hb dX11_begin_22 (by decide) ?_
      refine lv_istore (lv' := [(4, .int 0), (3, .int 0), (2, .int 0), (0, .ref mx), (1, .int p1)]) hx hb dX11_begin_23 hl (by decide) rfl (fun ls hl => ?_)
      refine lv_iconst (v := 0) hx hb dX11_begin_25 (by decide) ?_
      refine lv_istore (lv' := [(5, .int 0), (4, .int 0), (3, .int 0), (2, .int 0), (0, .ref mx), (1, .int p1)]) hx hb dX11_begin_26 hl (by decide) rfl (fun ls hl => ?_)
      refine lv_iconst (v := 0) hx hb dX11_begin_28 (by decide) ?_
      refine lv_istore (lv' := [(6, .int 0), (5, .int 0), (4, .int 0), (3, .int 0), (2, .int 0), (0, .ref mx), (1, .int p1)]) hx hb dX11_begin_29 hl (by decide) rfl (fun ls hl => ?_)
      refine kt_loop (σ := Nat × Int32 × Int32 × Int32 × Int32) 31 8 (fun u => [(mx, .inr (11, [.int ml, .int mw, .ref ms, .int mgl, .int mhd, .int mre, .int mag, .int mkt, .int mho, .int mpc, .int msd, .int mki, .ref mk, .ref ma, .ref mo, .ref mg, .ref mm, .ref mt, .int mdn, .int mun, .ref mn, .int mtk, .ref me, .ref mq, .int msv, .ref mwo, .ref md, .ref mf, .ref mr])), (ms, .inl (cI, 81, .inl fs)), (mk, .inl (cI, 40, .inl fk)), (ma, .inl (cI, 40, .inl fa)), (mo, .inl (cI, 81, .inl fo)), (mg, .inl (cI, 81, .inl fr)), (mt, .inl (cB, 172241, .inl gs_))]) (fun u => [(6, .int (nI u.1)), (5, .int u.2.2.2.2), (4, .int u.2.2.2.1), (3, .int u.2.2.1), (2, .int u.2.1), (0, .ref mx), (1, .int p1)]) (fun n u => (u.1 ≤ 81 ∧ 81 < u.1 + n ∧ u.1 ≤ kt_sz ml mw) ∧ u.2.1 = nI (kt_ct kt_iK fs u.1) ∧ u.2.2.1 = nI (kt_ct kt_iR fs u.1) ∧ u.2.2.2.1 = nI (kt_ct kt_iT fs u.1) ∧ u.2.2.2.2 = nI (kt_ct kt_iP fs u.1)) (fun u h => by omega) (fun n_31 ih_31 u hI H locs hP hD hS ls hl => ?_) (82) (0, (0 : Int32), (0 : Int32), (0 : Int32), (0 : Int32)) (by show (0 ≤ 81 ∧ 81 < 0 + 82 ∧ 0 ≤ kt_sz ml mw) ∧ (0 : Int32) = nI (kt_ct kt_iK fs 0) ∧ (0 : Int32) = nI (kt_ct kt_iR fs 0) ∧ (0 : Int32) = nI (kt_ct kt_iT fs 0) ∧ (0 : Int32) = nI (kt_ct kt_iP fs 0); exact ⟨⟨by decide, by decide, by omega⟩, rfl, rfl, rfl, rfl⟩) hP hD hS (lv_sub hl [0, 1, 2, 3, 4, 5, 6] rfl)
      obtain ⟨k, c1, c2, c3, c4⟩ := u
      have hP : va_P D vwCl [(mx, .inr (11, [.int ml, .int mw, .ref ms, .int mgl, .int mhd, .int mre, .int mag, .int mkt, .int mho, .int mpc, .int msd, .int mki, .ref mk, .ref ma, .ref mo, .ref mg, .ref mm, .ref mt, .int mdn, .int mun, .ref mn, .int mtk, .ref me, .ref mq, .int msv, .ref mwo, .ref md, .ref mf, .ref mr])), (ms, .inl (cI, 81, .inl fs)), (mk, .inl (cI, 40, .inl fk)), (ma, .inl (cI, 40, .inl fa)), (mo, .inl (cI, 81, .inl fo)), (mg, .inl (cI, 81, .inl fr)), (mt, .inl (cB, 172241, .inl gs_))] H := hP
      have hD : va_D A [(mx, .inr (11, [.int ml, .int mw, .ref ms, .int mgl, .int mhd, .int mre, .int mag, .int mkt, .int mho, .int mpc, .int msd, .int mki, .ref mk, .ref ma, .ref mo, .ref mg, .ref mm, .ref mt, .int mdn, .int mun, .ref mn, .int mtk, .ref me, .ref mq, .int msv, .ref mwo, .ref md, .ref mf, .ref mr])), (ms, .inl (cI, 81, .inl fs)), (mk, .inl (cI, 40, .inl fk)), (ma, .inl (cI, 40, .inl fa)), (mo, .inl (cI, 81, .inl fo)), (mg, .inl (cI, 81, .inl fr)), (mt, .inl (cB, 172241, .inl gs_))] := hD
      have hl : lv_has ls 8 [(6, .int (nI k)), (5, .int c4), (4, .int c3), (3, .int c2), (2, .int c1), (0, .ref mx), (1, .int p1)] := hl
      have hI : (k ≤ 81 ∧ 81 < k + (n_31 + 1) ∧ k ≤ kt_sz ml mw) ∧ c1 = nI (kt_ct kt_iK fs k) ∧ c2 = nI (kt_ct kt_iR fs k) ∧ c3 = nI (kt_ct kt_iT fs k) ∧ c4 = nI (kt_ct kt_iP fs k) := hI
      obtain ⟨hkb, h1, h2, h3, h4⟩ := hI
      have hk0 := kt_nI (n := k) (by omega)
      refine lv_iload hx hb dX11_begin_31 (lv_at hl 0 rfl) ?_
      refine lv_aload_n hx hb dX11_begin_33 rfl (lv_at hl 5 rfl) ?_
      refine kt_pi (wc := [(mx, .inr (11, [.int ml, .int mw, .ref ms, .int mgl, .int mhd, .int mre, .int mag, .int mkt, .int mho, .int mpc, .int msd, .int mki, .ref mk, .ref ma, .ref mo, .ref mg, .ref mm, .ref mt, .int mdn, .int mun, .ref mn, .int mtk, .ref me, .ref mq, .int msv, .ref mwo, .ref md, .ref mf, .ref mr]))]) [0] hP hD hS hA rfl (by decide) (fun hPc hDc => va_runV (As := []) (rest := [.int (nI k)]) ⟨hx, hb, hml, hown, hts⟩ (c_X11_fields l D cI cZ cB H.size mx ms mk ma mo mg mm mt mn me mq mwo md mf mr ml mw mgl mhd mre mag mkt mho mpc msd mki mdn mun mtk msv (by first | assumption | omega | rfl | decide) (by first | assumption | omega | rfl | decide)) (cwV 0 hts gX11_begin_X11_fields rfl rfl rfl (by decide +kernel) ⟨Nat.le_of_ble_eq_true rfl, Nat.le_of_ble_eq_true rfl⟩) (kt_preV hN hK hPc hDc 0 (ci := 11) (q := (RX11, TX11, 29)) rfl rfl) rfl rfl hl.1 rfl (lv_room (Nat.le_of_ble_eq_true rfl)) dX11_begin_34 ⟨Nat.le_of_ble_eq_true rfl, Nat.le_of_ble_eq_true rfl⟩) (fun r_34 _ H locs hw_34 hP hS => ?_)
      refine lv_icmp_ge (tgt := 147) hx hb dX11_begin_37 (by decide) (fun c_37 => ?_) (fun c_37 => ?_)
      · have d_37 := c_37
        simp only [kt_lt, kt_le, kt_eq, kt_c0, kt_c1, kt_c2, kt_c3, kt_c4, kt_c8, kt_c9, kt_cm1, kt_c81, kt_c40, kt_c7, kt_c5, kt_c6, kt_c512, kt_c10, kt_c10000] at d_37
        have hkN : k = kt_sz ml mw := by omega
        rw [hkN] at h1 h2 h3 h4
        have l1 := kt_ct_le kt_iK fs (kt_sz ml mw)
        have l2 := kt_ct_le kt_iR fs (kt_sz ml mw)
        have l3 := kt_ct_le kt_iT fs (kt_sz ml mw)
        have l4 := kt_ct_le kt_iP fs (kt_sz ml mw)
        have e1 := kt_nI (n := kt_ct kt_iK fs (kt_sz ml mw)) (by omega)
        have e2 := kt_nI (n := kt_ct kt_iR fs (kt_sz ml mw)) (by omega)
        have e3 := kt_nI (n := kt_ct kt_iT fs (kt_sz ml mw)) (by omega)
        have e4 := kt_nI (n := kt_ct kt_iP fs (kt_sz ml mw)) (by omega)
        rw [← h1] at e1
        rw [← h2] at e2
        rw [← h3] at e3
        rw [← h4] at e4
        refine lv_iload_n hx hb dX11_begin_147 rfl (lv_at hl 4 rfl) ?_
        refine lv_iconst (v := 1) hx hb dX11_begin_148 (by decide) ?_
        refine lv_icmp_ne (tgt := 169) hx hb dX11_begin_149 (by decide) (fun c_149 => ?_) (fun c_149 => ?_)
        · have d_149 := c_149
          simp only [kt_lt, kt_le, kt_eq, kt_c0, kt_c1, kt_c2, kt_c3, kt_c4, kt_c8, kt_c9, kt_cm1, kt_c81, kt_c40, kt_c7, kt_c5, kt_c6, kt_c512, kt_c10, kt_c10000] at d_149
          refine lv_iconst (v := (-1)) hx hb dX11_begin_169 (by decide) ?_
          exact kt_ri (mho, mpc, msd, mki, mdn, mun, mtk, msv, fk, fa, fo, fr, gs_) hx hb hr hlk hS dX11_begin_170 hP hD (by show ((-1 : Int32).toInt = -1 ∧ ¬ (mho.toInt = 0 ∧ (p1.toInt = 0 ∨ p1.toInt = 1) ∧ kt_ok fs (kt_sz ml mw)) ∧ mho = mho ∧ mpc = mpc ∧ msd = msd ∧ mki = mki ∧ mdn = mdn ∧ mun = mun ∧ mtk = mtk ∧ msv = msv ∧ fk = fk ∧ fa = fa ∧ fo = fo ∧ fr = fr ∧ gs_ = gs_) ∨ ((mho.toInt = 0 ∧ (p1.toInt = 0 ∨ p1.toInt = 1) ∧ kt_ok fs (kt_sz ml mw)) ∧ (-1 : Int32) = nI (kt_ct kt_iP fs (kt_sz ml mw)) ∧ (1 ≤ mho.toInt ∧ mho.toInt ≤ 3) ∧ (mdn = 0 ∧ mun = 0 ∧ msv = 0 ∧ mpc = (-1 : Int32)) ∧ kt_PI ml mw mpc msd mki mdn mun mkt mhd fr fk fa fo mv gs_ (kt_ct kt_iP fs (kt_sz ml mw))); first
               | exact Or.inl ⟨by decide, fun h => by omega, rfl, rfl, rfl, rfl, rfl, rfl, rfl, rfl, rfl, rfl, rfl, rfl, rfl⟩
               | exact Or.inl ⟨by decide, fun h => (hw_10.f c_13) (by omega), rfl, rfl, rfl, rfl, rfl, rfl, rfl, rfl, rfl, rfl, rfl, rfl, rfl⟩
               | exact Or.inl ⟨by decide, fun h => by have h9 := h.2.2; unfold kt_ok at h9; omega, rfl, rfl, rfl, rfl, rfl, rfl, rfl, rfl, rfl, rfl, rfl, rfl, rfl⟩
               | exact Or.inr ⟨⟨by omega, by omega, hok⟩, hpx, by first | decide | omega, ⟨rfl, rfl, rfl, rfl⟩, hpin⟩)
        · have d_149 := c_149
          simp only [kt_lt, kt_le, kt_eq, kt_c0, kt_c1, kt_c2, kt_c3, kt_c4, kt_c8, kt_c9, kt_cm1, kt_c81, kt_c40, kt_c7, kt_c5, kt_c6, kt_c512, kt_c10, kt_c10000] at d_149
          refine lv_iload_n hx hb dX11_begin_152 rfl (lv_at hl 3 rfl) ?_
          refine lv_if_eq (tgt := 169) hx hb dX11_begin_153 (by decide) (fun c_153 => ?_) (fun c_153 => ?_)
          · have d_153 := c_153
            simp only [kt_lt, kt_le, kt_eq, kt_c0, kt_c1, kt_c2, kt_c3, kt_c4, kt_c8, kt_c9, kt_cm1, kt_c81, kt_c40, kt_c7, kt_c5, kt_c6, kt_c512, kt_c10, kt_c10000] at d_153
            refine lv_iconst (v := (-1)) hx hb dX11_begin_169 (by decide) ?_
            exact kt_ri (mho, mpc, msd, mki, mdn, mun, mtk, msv, fk, fa, fo, fr, gs_) hx hb hr hlk hS dX11_begin_170 hP hD (by show ((-1 : Int32).toInt = -1 ∧ ¬ (mho.toInt = 0 ∧ (p1.toInt = 0 ∨ p1.toInt = 1) ∧ kt_ok fs (kt_sz ml mw)) ∧ mho = mho ∧ mpc = mpc ∧ msd = msd ∧ mki = mki ∧ mdn = mdn ∧ mun = mun ∧ mtk = mtk ∧ msv = msv ∧ fk = fk ∧ fa = fa ∧ fo = fo ∧ fr = fr ∧ gs_ = gs_) ∨ ((mho.toInt = 0 ∧ (p1.toInt = 0 ∨ p1.toInt = 1) ∧ kt_ok fs (kt_sz ml mw)) ∧ (-1 : Int32) = nI (kt_ct kt_iP fs (kt_sz ml mw)) ∧ (1 ≤ mho.toInt ∧ mho.toInt ≤ 3) ∧ (mdn = 0 ∧ mun = 0 ∧ msv = 0 ∧ mpc = (-1 : Int32)) ∧ kt_PI ml mw mpc msd mki mdn mun mkt mhd fr fk fa fo mv gs_ (kt_ct kt_iP fs (kt_sz ml mw))); first
                 | exact Or.inl ⟨by decide, fun h => by omega, rfl, rfl, rfl, rfl, rfl, rfl, rfl, rfl, rfl, rfl, rfl, rfl, rfl⟩
                 | exact Or.inl ⟨by decide, fun h => (hw_10.f c_13) (by omega), rfl, rfl, rfl, rfl, rfl, rfl, rfl, rfl, rfl, rfl, rfl, rfl, rfl⟩
                 | exact Or.inl ⟨by decide, fun h => by have h9 := h.2.2; unfold kt_ok at h9; omega, rfl, rfl, rfl, rfl, rfl, rfl, rfl, rfl, rfl, rfl, rfl, rfl, rfl⟩
                 | exact Or.inr ⟨⟨by omega, by omega, hok⟩, hpx, by first | decide | omega, ⟨rfl, rfl, rfl, rfl⟩, hpin⟩)
          · have d_153 := c_153
            simp only [kt_lt, kt_le, kt_eq, kt_c0, kt_c1, kt_c2, kt_c3, kt_c4, kt_c8, kt_c9, kt_cm1, kt_c81, kt_c40, kt_c7, kt_c5, kt_c6, kt_c512, kt_c10, kt_c10000] at d_153
            refine lv_iload hx hb dX11_begin_156 (lv_at hl 1 rfl) ?_
            refine lv_bipush (v := 40) hx hb dX11_begin_158 (by decide) ?_
            refine lv_icmp_gt (tgt := 169) hx hb dX11_begin_160 (by decide) (fun c_160 => ?_) (fun c_160 => ?_)
            · have d_160 := c_160
              simp only [kt_lt, kt_le, kt_eq, kt_c0, kt_c1, kt_c2, kt_c3, kt_c4, kt_c8, kt_c9, kt_cm1, kt_c81, kt_c40, kt_c7, kt_c5, kt_c6, kt_c512, kt_c10, kt_c10000] at d_160
              refine lv_iconst (v := (-1)) hx hb dX11_begin_169 (by decide) ?_
              exact kt_ri (mho, mpc, msd, mki, mdn, mun, mtk, msv, fk, fa, fo, fr, gs_) hx hb hr hlk hS dX11_begin_170 hP hD (by show ((-1 : Int32).toInt = -1 ∧ ¬ (mho.toInt = 0 ∧ (p1.toInt = 0 ∨ p1.toInt = 1) ∧ kt_ok fs (kt_sz ml mw)) ∧ mho = mho ∧ mpc = mpc ∧ msd = msd ∧ mki = mki ∧ mdn = mdn ∧ mun = mun ∧ mtk = mtk ∧ msv = msv ∧ fk = fk ∧ fa = fa ∧ fo = fo ∧ fr = fr ∧ gs_ = gs_) ∨ ((mho.toInt = 0 ∧ (p1.toInt = 0 ∨ p1.toInt = 1) ∧ kt_ok fs (kt_sz ml mw)) ∧ (-1 : Int32) = nI (kt_ct kt_iP fs (kt_sz ml mw)) ∧ (1 ≤ mho.toInt ∧ mho.toInt ≤ 3) ∧ (mdn = 0 ∧ mun = 0 ∧ msv = 0 ∧ mpc = (-1 : Int32)) ∧ kt_PI ml mw mpc msd mki mdn mun mkt mhd fr fk fa fo mv gs_ (kt_ct kt_iP fs (kt_sz ml mw))); first
                   | exact Or.inl ⟨by decide, fun h => by omega, rfl, rfl, rfl, rfl, rfl, rfl, rfl, rfl, rfl, rfl, rfl, rfl, rfl⟩
                   | exact Or.inl ⟨by decide, fun h => (hw_10.f c_13) (by omega), rfl, rfl, rfl, rfl, rfl, rfl, rfl, rfl, rfl, rfl, rfl, rfl, rfl⟩
                   | exact Or.inl ⟨by decide, fun h => by have h9 := h.2.2; unfold kt_ok at h9; omega, rfl, rfl, rfl, rfl, rfl, rfl, rfl, rfl, rfl, rfl, rfl, rfl, rfl⟩
                   | exact Or.inr ⟨⟨by omega, by omega, hok⟩, hpx, by first | decide | omega, ⟨rfl, rfl, rfl, rfl⟩, hpin⟩)
            · have d_160 := c_160
              simp only [kt_lt, kt_le, kt_eq, kt_c0, kt_c1, kt_c2, kt_c3, kt_c4, kt_c8, kt_c9, kt_cm1, kt_c81, kt_c40, kt_c7, kt_c5, kt_c6, kt_c512, kt_c10, kt_c10000] at d_160
              refine lv_iload hx hb dX11_begin_163 (lv_at hl 2 rfl) ?_
              refine lv_iconst (v := 1) hx hb dX11_begin_165 (by decide) ?_
              refine lv_icmp_le (tgt := 171) hx hb dX11_begin_166 (by decide) (fun c_166 => ?_) (fun c_166 => ?_)
              · have d_166 := c_166
                simp only [kt_lt, kt_le, kt_eq, kt_c0, kt_c1, kt_c2, kt_c3, kt_c4, kt_c8, kt_c9, kt_cm1, kt_c81, kt_c40, kt_c7, kt_c5, kt_c6, kt_c512, kt_c10, kt_c10000] at d_166
                have hok : kt_ok fs (kt_sz ml mw) := by unfold kt_ok; omega
                have hok0 := hok
                unfold kt_ok at hok0
                have hbP := kt_bs_ct (P := kt_iP) (fs := fs) (N := kt_sz ml mw) (by decide)
                have hbK := kt_bs_ct (P := kt_iK) (fs := fs) (N := kt_sz ml mw) (by decide)
                have hPb : ∀ n, n ≤ 81 → kt_ct kt_iP (kt_bs fs (kt_sz ml mw)) n ≤ 40 := fun n hn => by
                  have h5 := kt_ct_mono kt_iP (kt_bs fs (kt_sz ml mw)) hn
                  rw [hbP 81 (by omega)] at h5
                  omega
                refine lv_aload_n hx hb dX11_begin_171 rfl (lv_at hl 5 rfl) ?_
                refine lv_iconst (v := 0) hx hb dX11_begin_172 (by decide) ?_
                refine va_put (D := D) (ci := 11) (v := .int 0) (ty := .int) (C := RX11) (T := TX11) (N := 29) hx hb hts iw_X11_begin_X11 tyX11 tyX11_ok nmX11 hown hK hP hD hS 0 rfl rfl 9 (by decide) (hts (.fieldLink RX11 103 "KingTableModel" "pieces" "I") (kt_wp_X11_begin__X11_begin_r1 kt_wm2)) (fun _ h9 => h9) rfl (by decide +kernel) rfl rfl (Nat.le_of_ble_eq_true rfl) dX11_begin_173 (fun H locs hP hD hS => ?_)
                have hP : va_P D vwCl [(mx, .inr (11, [.int ml, .int mw, .ref ms, .int mgl, .int mhd, .int mre, .int mag, .int mkt, .int mho, .int 0, .int msd, .int mki, .ref mk, .ref ma, .ref mo, .ref mg, .ref mm, .ref mt, .int mdn, .int mun, .ref mn, .int mtk, .ref me, .ref mq, .int msv, .ref mwo, .ref md, .ref mf, .ref mr])), (ms, .inl (cI, 81, .inl fs)), (mk, .inl (cI, 40, .inl fk)), (ma, .inl (cI, 40, .inl fa)), (mo, .inl (cI, 81, .inl fo)), (mg, .inl (cI, 81, .inl fr)), (mt, .inl (cB, 172241, .inl gs_))] H := hP
                have hD : va_D A [(mx, .inr (11, [.int ml, .int mw, .ref ms, .int mgl, .int mhd, .int mre, .int mag, .int mkt, .int mho, .int 0, .int msd, .int mki, .ref mk, .ref ma, .ref mo, .ref mg, .ref mm, .ref mt, .int mdn, .int mun, .ref mn, .int mtk, .ref me, .ref mq, .int msv, .ref mwo, .ref md, .ref mf, .ref mr])), (ms, .inl (cI, 81, .inl fs)), (mk, .inl (cI, 40, .inl fk)), (ma, .inl (cI, 40, .inl fa)), (mo, .inl (cI, 81, .inl fo)), (mg, .inl (cI, 81, .inl fr)), (mt, .inl (cB, 172241, .inl gs_))] := hD
                refine lv_iconst (v := 0) hx hb dX11_begin_176 (by decide) ?_
                refine lv_istore (lv' := [(6, .int 0), (5, .int c4), (4, .int c3), (3, .int c2), (2, .int c1), (0, .ref mx), (1, .int p1)]) hx hb dX11_begin_177 hl (by decide) rfl (fun ls hl => ?_)
                refine kt_loop (σ := Nat × Int32 × Int32 × (Nat → Int32) × (Nat → Int32) × (Nat → Int32) × (Nat → Int32)) 179 8 (fun u => [(mx, .inr (11, [.int ml, .int mw, .ref ms, .int mgl, .int mhd, .int mre, .int mag, .int mkt, .int mho, .int u.2.1, .int msd, .int u.2.2.1, .ref mk, .ref ma, .ref mo, .ref mg, .ref mm, .ref mt, .int mdn, .int mun, .ref mn, .int mtk, .ref me, .ref mq, .int msv, .ref mwo, .ref md, .ref mf, .ref mr])), (ms, .inl (cI, 81, .inl fs)), (mk, .inl (cI, 40, .inl u.2.2.2.1)), (ma, .inl (cI, 40, .inl u.2.2.2.2.1)), (mo, .inl (cI, 81, .inl u.2.2.2.2.2.1)), (mg, .inl (cI, 81, .inl u.2.2.2.2.2.2)), (mt, .inl (cB, 172241, .inl gs_))]) (fun u => [(6, .int (nI u.1)), (0, .ref mx), (1, .int p1)]) (fun n u => (u.1 ≤ 81 ∧ 81 < u.1 + n) ∧ (u.2.1 = nI (kt_ct kt_iP (kt_bs fs (kt_sz ml mw)) u.1)) ∧ (∀ q, q < kt_ct kt_iP (kt_bs fs (kt_sz ml mw)) u.1 → 0 ≤ (u.2.2.2.2.1 q).toInt ∧ (u.2.2.2.2.1 q).toInt < (u.1 : Int) ∧ (u.2.2.2.2.1 q).toInt < ml.toInt * mw.toInt) ∧ (∀ j, j < u.1 → u.2.2.2.2.2.1 j = -1 ∨ ∃ q : Nat, q < kt_ct kt_iP (kt_bs fs (kt_sz ml mw)) u.1 ∧ u.2.2.2.2.2.1 j = nI q ∧ u.2.2.2.2.1 q = nI j) ∧ (∀ q, q < kt_ct kt_iP (kt_bs fs (kt_sz ml mw)) u.1 → ∀ j, j < u.1 → u.2.2.2.2.1 q = nI j → u.2.2.2.2.2.1 j = nI q) ∧ (1 ≤ kt_ct kt_iK (kt_bs fs (kt_sz ml mw)) u.1 → 0 ≤ u.2.2.1.toInt ∧ u.2.2.1.toInt < (kt_ct kt_iP (kt_bs fs (kt_sz ml mw)) u.1 : Int))) (fun u h => by omega) (fun n_179 ih_179 u hI H locs hP hD hS ls hl => ?_) (82) (0, (0 : Int32), mki, fk, fa, fo, fr) (by show (0 ≤ 81 ∧ 81 < 0 + 82) ∧ ((0 : Int32) = nI (kt_ct kt_iP (kt_bs fs (kt_sz ml mw)) 0)) ∧ (∀ q, q < kt_ct kt_iP (kt_bs fs (kt_sz ml mw)) 0 → 0 ≤ (fa q).toInt ∧ (fa q).toInt < (0 : Int) ∧ (fa q).toInt < ml.toInt * mw.toInt) ∧ (∀ j, j < 0 → fo j = -1 ∨ ∃ q : Nat, q < kt_ct kt_iP (kt_bs fs (kt_sz ml mw)) 0 ∧ fo j = nI q ∧ fa q = nI j) ∧ (∀ q, q < kt_ct kt_iP (kt_bs fs (kt_sz ml mw)) 0 → ∀ j, j < 0 → fa q = nI j → fo j = nI q) ∧ (1 ≤ kt_ct kt_iK (kt_bs fs (kt_sz ml mw)) 0 → 0 ≤ mki.toInt ∧ mki.toInt < (kt_ct kt_iP (kt_bs fs (kt_sz ml mw)) 0 : Int)); exact ⟨by decide, rfl, fun qq h => absurd h (Nat.not_lt_zero qq), fun j h => absurd h (Nat.not_lt_zero j), fun qq h => absurd h (Nat.not_lt_zero qq), fun h => absurd h (by show ¬ 1 ≤ 0; omega)⟩) hP hD hS (lv_sub hl [0, 5, 6] rfl)
                obtain ⟨f, px, kx, gk, ga, go, gr⟩ := u
                have hP : va_P D vwCl [(mx, .inr (11, [.int ml, .int mw, .ref ms, .int mgl, .int mhd, .int mre, .int mag, .int mkt, .int mho, .int px, .int msd, .int kx, .ref mk, .ref ma, .ref mo, .ref mg, .ref mm, .ref mt, .int mdn, .int mun, .ref mn, .int mtk, .ref me, .ref mq, .int msv, .ref mwo, .ref md, .ref mf, .ref mr])), (ms, .inl (cI, 81, .inl fs)), (mk, .inl (cI, 40, .inl gk)), (ma, .inl (cI, 40, .inl ga)), (mo, .inl (cI, 81, .inl go)), (mg, .inl (cI, 81, .inl gr)), (mt, .inl (cB, 172241, .inl gs_))] H := hP
                have hD : va_D A [(mx, .inr (11, [.int ml, .int mw, .ref ms, .int mgl, .int mhd, .int mre, .int mag, .int mkt, .int mho, .int px, .int msd, .int kx, .ref mk, .ref ma, .ref mo, .ref mg, .ref mm, .ref mt, .int mdn, .int mun, .ref mn, .int mtk, .ref me, .ref mq, .int msv, .ref mwo, .ref md, .ref mf, .ref mr])), (ms, .inl (cI, 81, .inl fs)), (mk, .inl (cI, 40, .inl gk)), (ma, .inl (cI, 40, .inl ga)), (mo, .inl (cI, 81, .inl go)), (mg, .inl (cI, 81, .inl gr)), (mt, .inl (cB, 172241, .inl gs_))] := hD
                have hl : lv_has ls 8 [(6, .int (nI f)), (0, .ref mx), (1, .int p1)] := hl
                have hI : (f ≤ 81 ∧ 81 < f + (n_179 + 1)) ∧ (px = nI (kt_ct kt_iP (kt_bs fs (kt_sz ml mw)) f)) ∧ (∀ q, q < kt_ct kt_iP (kt_bs fs (kt_sz ml mw)) f → 0 ≤ (ga q).toInt ∧ (ga q).toInt < (f : Int) ∧ (ga q).toInt < ml.toInt * mw.toInt) ∧ (∀ j, j < f → go j = -1 ∨ ∃ q : Nat, q < kt_ct kt_iP (kt_bs fs (kt_sz ml mw)) f ∧ go j = nI q ∧ ga q = nI j) ∧ (∀ q, q < kt_ct kt_iP (kt_bs fs (kt_sz ml mw)) f → ∀ j, j < f → ga q = nI j → go j = nI q) ∧ (1 ≤ kt_ct kt_iK (kt_bs fs (kt_sz ml mw)) f → 0 ≤ kx.toInt ∧ kx.toInt < (kt_ct kt_iP (kt_bs fs (kt_sz ml mw)) f : Int)) := hI
                obtain ⟨hfb, hpx, hgar, hcn, hck, hkx⟩ := hI
                have hf0 := kt_nI (n := f) (by omega)
                have hle := kt_ct_le kt_iP (kt_bs fs (kt_sz ml mw)) f
                refine lv_iload hx hb dX11_begin_179 (lv_at hl 0 rfl) ?_
                refine lv_bipush (v := 81) hx hb dX11_begin_181 (by decide) ?_
                refine lv_icmp_ge (tgt := 355) hx hb dX11_begin_183 (by decide) (fun c_183 => ?_) (fun c_183 => ?_)
                · have d_183 := c_183
                  simp only [kt_lt, kt_le, kt_eq, kt_c0, kt_c1, kt_c2, kt_c3, kt_c4, kt_c8, kt_c9, kt_cm1, kt_c81, kt_c40, kt_c7, kt_c5, kt_c6, kt_c512, kt_c10, kt_c10000] at d_183
                  have hf81 : f = 81 := by omega
                  rw [hf81, hbP 81 (by omega)] at hpx hgar hcn hck hkx
                  rw [hbK 81 (by omega)] at hkx
                  have hpcP : ((kt_ct kt_iP fs (kt_sz ml mw) : Nat) : Int) = px.toInt ∧ kt_ct kt_iP fs (kt_sz ml mw) ≤ 40 := ⟨by rw [hpx, kt_nI (by omega)], by omega⟩
                  have hkiP := hkx (by omega)
                  have hfcP : kt_r ga (kt_ct kt_iP fs (kt_sz ml mw)) (-1) (ml.toInt * mw.toInt - 1) ∧ kt_con go ga (kt_ct kt_iP fs (kt_sz ml mw)) ∧ kt_coc go ga (kt_ct kt_iP fs (kt_sz ml mw)) := ⟨fun qq hq => by have := hgar qq hq; omega, fun j hj hne => by rcases hcn j hj with h | h; exact absurd h hne; exact h, fun qq hq j hj hg => hck qq hq j hj hg⟩
                  refine lv_aload_n hx hb dX11_begin_355 rfl (lv_at hl 1 rfl) ?_
                  refine lv_iload_n hx hb dX11_begin_356 rfl (lv_at hl 2 rfl) ?_
                  refine va_put (D := D) (ci := 11) (v := .int p1) (ty := .int) (C := RX11) (T := TX11) (N := 29) hx hb hts iw_X11_begin_X11 tyX11 tyX11_ok nmX11 hown hK hP hD hS 0 rfl rfl 10 (by decide) (hts (.fieldLink RX11 126 "KingTableModel" "side" "I") (kt_wp_X11_begin__X11_begin_r1 kt_wm8)) (fun _ h9 => h9) rfl (by decide +kernel) rfl rfl (Nat.le_of_ble_eq_true rfl) dX11_begin_357 (fun H locs hP hD hS => ?_)
                  have hP : va_P D vwCl [(mx, .inr (11, [.int ml, .int mw, .ref ms, .int mgl, .int mhd, .int mre, .int mag, .int mkt, .int mho, .int px, .int p1, .int kx, .ref mk, .ref ma, .ref mo, .ref mg, .ref mm, .ref mt, .int mdn, .int mun, .ref mn, .int mtk, .ref me, .ref mq, .int msv, .ref mwo, .ref md, .ref mf, .ref mr])), (ms, .inl (cI, 81, .inl fs)), (mk, .inl (cI, 40, .inl gk)), (ma, .inl (cI, 40, .inl ga)), (mo, .inl (cI, 81, .inl go)), (mg, .inl (cI, 81, .inl gr)), (mt, .inl (cB, 172241, .inl gs_))] H := hP
                  have hD : va_D A [(mx, .inr (11, [.int ml, .int mw, .ref ms, .int mgl, .int mhd, .int mre, .int mag, .int mkt, .int mho, .int px, .int p1, .int kx, .ref mk, .ref ma, .ref mo, .ref mg, .ref mm, .ref mt, .int mdn, .int mun, .ref mn, .int mtk, .ref me, .ref mq, .int msv, .ref mwo, .ref md, .ref mf, .ref mr])), (ms, .inl (cI, 81, .inl fs)), (mk, .inl (cI, 40, .inl gk)), (ma, .inl (cI, 40, .inl ga)), (mo, .inl (cI, 81, .inl go)), (mg, .inl (cI, 81, .inl gr)), (mt, .inl (cB, 172241, .inl gs_))] := hD
                  refine lv_aload_n hx hb dX11_begin_360 rfl (lv_at hl 1 rfl) ?_
                  refine lv_iconst (v := 0) hx hb dX11_begin_361 (by decide) ?_
                  refine va_put (D := D) (ci := 11) (v := .int 0) (ty := .int) (C := RX11) (T := TX11) (N := 29) hx hb hts iw_X11_begin_X11 tyX11 tyX11_ok nmX11 hown hK hP hD hS 0 rfl rfl 18 (by decide) (hts (.fieldLink RX11 138 "KingTableModel" "done" "I") (kt_wp_X11_begin__X11_begin_r1 kt_wm9)) (fun _ h9 => h9) rfl (by decide +kernel) rfl rfl (Nat.le_of_ble_eq_true rfl) dX11_begin_362 (fun H locs hP hD hS => ?_)
                  have hP : va_P D vwCl [(mx, .inr (11, [.int ml, .int mw, .ref ms, .int mgl, .int mhd, .int mre, .int mag, .int mkt, .int mho, .int px, .int p1, .int kx, .ref mk, .ref ma, .ref mo, .ref mg, .ref mm, .ref mt, .int 0, .int mun, .ref mn, .int mtk, .ref me, .ref mq, .int msv, .ref mwo, .ref md, .ref mf, .ref mr])), (ms, .inl (cI, 81, .inl fs)), (mk, .inl (cI, 40, .inl gk)), (ma, .inl (cI, 40, .inl ga)), (mo, .inl (cI, 81, .inl go)), (mg, .inl (cI, 81, .inl gr)), (mt, .inl (cB, 172241, .inl gs_))] H := hP
                  have hD : va_D A [(mx, .inr (11, [.int ml, .int mw, .ref ms, .int mgl, .int mhd, .int mre, .int mag, .int mkt, .int mho, .int px, .int p1, .int kx, .ref mk, .ref ma, .ref mo, .ref mg, .ref mm, .ref mt, .int 0, .int mun, .ref mn, .int mtk, .ref me, .ref mq, .int msv, .ref mwo, .ref md, .ref mf, .ref mr])), (ms, .inl (cI, 81, .inl fs)), (mk, .inl (cI, 40, .inl gk)), (ma, .inl (cI, 40, .inl ga)), (mo, .inl (cI, 81, .inl go)), (mg, .inl (cI, 81, .inl gr)), (mt, .inl (cB, 172241, .inl gs_))] := hD
                  refine lv_aload_n hx hb dX11_begin_365 rfl (lv_at hl 1 rfl) ?_
                  refine lv_iconst (v := 0) hx hb dX11_begin_366 (by decide) ?_
                  refine va_put (D := D) (ci := 11) (v := .int 0) (ty := .int) (C := RX11) (T := TX11) (N := 29) hx hb hts iw_X11_begin_X11 tyX11 tyX11_ok nmX11 hown hK hP hD hS 0 rfl rfl 19 (by decide) (hts (.fieldLink RX11 141 "KingTableModel" "undone" "I") (kt_wp_X11_begin__X11_begin_r1 kt_wm10)) (fun _ h9 => h9) rfl (by decide +kernel) rfl rfl (Nat.le_of_ble_eq_true rfl) dX11_begin_367 (fun H locs hP hD hS => ?_)
                  have hP : va_P D vwCl [(mx, .inr (11, [.int ml, .int mw, .ref ms, .int mgl, .int mhd, .int mre, .int mag, .int mkt, .int mho, .int px, .int p1, .int kx, .ref mk, .ref ma, .ref mo, .ref mg, .ref mm, .ref mt, .int 0, .int 0, .ref mn, .int mtk, .ref me, .ref mq, .int msv, .ref mwo, .ref md, .ref mf, .ref mr])), (ms, .inl (cI, 81, .inl fs)), (mk, .inl (cI, 40, .inl gk)), (ma, .inl (cI, 40, .inl ga)), (mo, .inl (cI, 81, .inl go)), (mg, .inl (cI, 81, .inl gr)), (mt, .inl (cB, 172241, .inl gs_))] H := hP
                  have hD : va_D A [(mx, .inr (11, [.int ml, .int mw, .ref ms, .int mgl, .int mhd, .int mre, .int mag, .int mkt, .int mho, .int px, .int p1, .int kx, .ref mk, .ref ma, .ref mo, .ref mg, .ref mm, .ref mt, .int 0, .int 0, .ref mn, .int mtk, .ref me, .ref mq, .int msv, .ref mwo, .ref md, .ref mf, .ref mr])), (ms, .inl (cI, 81, .inl fs)), (mk, .inl (cI, 40, .inl gk)), (ma, .inl (cI, 40, .inl ga)), (mo, .inl (cI, 81, .inl go)), (mg, .inl (cI, 81, .inl gr)), (mt, .inl (cB, 172241, .inl gs_))] := hD
                  refine lv_aload_n hx hb dX11_begin_370 rfl (lv_at hl 1 rfl) ?_
                  refine lv_iconst (v := (-1)) hx hb dX11_begin_371 (by decide) ?_
                  refine va_put (D := D) (ci := 11) (v := .int (-1)) (ty := .int) (C := RX11) (T := TX11) (N := 29) hx hb hts iw_X11_begin_X11 tyX11 tyX11_ok nmX11 hown hK hP hD hS 0 rfl rfl 21 (by decide) (hts (.fieldLink RX11 120 "KingTableModel" "tookMany" "I") (kt_wp_X11_begin__X11_begin_r1 kt_wm11)) (fun _ h9 => h9) rfl (by decide +kernel) rfl rfl (Nat.le_of_ble_eq_true rfl) dX11_begin_372 (fun H locs hP hD hS => ?_)
                  have hP : va_P D vwCl [(mx, .inr (11, [.int ml, .int mw, .ref ms, .int mgl, .int mhd, .int mre, .int mag, .int mkt, .int mho, .int px, .int p1, .int kx, .ref mk, .ref ma, .ref mo, .ref mg, .ref mm, .ref mt, .int 0, .int 0, .ref mn, .int (-1), .ref me, .ref mq, .int msv, .ref mwo, .ref md, .ref mf, .ref mr])), (ms, .inl (cI, 81, .inl fs)), (mk, .inl (cI, 40, .inl gk)), (ma, .inl (cI, 40, .inl ga)), (mo, .inl (cI, 81, .inl go)), (mg, .inl (cI, 81, .inl gr)), (mt, .inl (cB, 172241, .inl gs_))] H := hP
                  have hD : va_D A [(mx, .inr (11, [.int ml, .int mw, .ref ms, .int mgl, .int mhd, .int mre, .int mag, .int mkt, .int mho, .int px, .int p1, .int kx, .ref mk, .ref ma, .ref mo, .ref mg, .ref mm, .ref mt, .int 0, .int 0, .ref mn, .int (-1), .ref me, .ref mq, .int msv, .ref mwo, .ref md, .ref mf, .ref mr])), (ms, .inl (cI, 81, .inl fs)), (mk, .inl (cI, 40, .inl gk)), (ma, .inl (cI, 40, .inl ga)), (mo, .inl (cI, 81, .inl go)), (mg, .inl (cI, 81, .inl gr)), (mt, .inl (cB, 172241, .inl gs_))] := hD
                  refine lv_aload_n hx hb dX11_begin_375 rfl (lv_at hl 1 rfl) ?_
                  refine lv_iconst (v := 0) hx hb dX11_begin_376 (by decide) ?_
                  refine va_put (D := D) (ci := 11) (v := .int 0) (ty := .boolean) (C := RX11) (T := TX11) (N := 29) hx hb hts iw_X11_begin_X11 tyX11 tyX11_ok nmX11 hown hK hP hD hS 0 rfl rfl 24 (by decide) (hts (.fieldLink RX11 76 "KingTableModel" "solved" "Z") (kt_wp_X11_begin__X11_begin_r1 kt_wm12)) (fun _ h9 => h9) rfl (by decide +kernel) rfl rfl (Nat.le_of_ble_eq_true rfl) dX11_begin_377 (fun H locs hP hD hS => ?_)
                  have hP : va_P D vwCl [(mx, .inr (11, [.int ml, .int mw, .ref ms, .int mgl, .int mhd, .int mre, .int mag, .int mkt, .int mho, .int px, .int p1, .int kx, .ref mk, .ref ma, .ref mo, .ref mg, .ref mm, .ref mt, .int 0, .int 0, .ref mn, .int (-1), .ref me, .ref mq, .int 0, .ref mwo, .ref md, .ref mf, .ref mr])), (ms, .inl (cI, 81, .inl fs)), (mk, .inl (cI, 40, .inl gk)), (ma, .inl (cI, 40, .inl ga)), (mo, .inl (cI, 81, .inl go)), (mg, .inl (cI, 81, .inl gr)), (mt, .inl (cB, 172241, .inl gs_))] H := hP
                  have hD : va_D A [(mx, .inr (11, [.int ml, .int mw, .ref ms, .int mgl, .int mhd, .int mre, .int mag, .int mkt, .int mho, .int px, .int p1, .int kx, .ref mk, .ref ma, .ref mo, .ref mg, .ref mm, .ref mt, .int 0, .int 0, .ref mn, .int (-1), .ref me, .ref mq, .int 0, .ref mwo, .ref md, .ref mf, .ref mr])), (ms, .inl (cI, 81, .inl fs)), (mk, .inl (cI, 40, .inl gk)), (ma, .inl (cI, 40, .inl ga)), (mo, .inl (cI, 81, .inl go)), (mg, .inl (cI, 81, .inl gr)), (mt, .inl (cB, 172241, .inl gs_))] := hD
                  refine lv_aload_n hx hb dX11_begin_380 rfl (lv_at hl 1 rfl) ?_
                  refine lv_iconst (v := 0) hx hb dX11_begin_381 (by decide) ?_
                  refine kt_bv (wc := [(mx, .inr (11, [.int ml, .int mw, .ref ms, .int mgl, .int mhd, .int mre, .int mag, .int mkt, .int mho, .int px, .int p1, .int kx, .ref mk, .ref ma, .ref mo, .ref mg, .ref mm, .ref mt, .int 0, .int 0, .ref mn, .int (-1), .ref me, .ref mq, .int 0, .ref mwo, .ref md, .ref mf, .ref mr])), (ma, .inl (cI, 40, .inl ga)), (mt, .inl (cB, 172241, .inl gs_))]) (wr := [(ms, .inl (cI, 81, .inl fs)), (mk, .inl (cI, 40, .inl gk)), (mo, .inl (cI, 81, .inl go)), (mg, .inl (cI, 81, .inl gr))]) [0, 3, 6] [1, 2, 4, 5] hP hD hS hA rfl rfl (by decide) (by decide) (by decide) (fun hPc hDc => va_runV (As := [.int 0]) (rest := []) ⟨hx, hb, hml, hown, hts⟩ (c_X11_writeE l D cI cZ cB H.size mx ms mk ma mo mg mm mt mn me mq mwo md mf mr ml mw mgl mhd mre mag mkt mho px p1 kx 0 0 (-1) 0 (kt_ct kt_iP fs (kt_sz ml mw)) ga gs_ 0 hml_ hmw hpcP hfcP.1 (by decide) (by omega)) (cwV 1 hts gX11_begin_X11_write rfl rfl rfl (by decide +kernel) ⟨Nat.le_of_ble_eq_true rfl, Nat.le_of_ble_eq_true rfl⟩) (kt_preV hN hK hPc hDc 0 (ci := 11) (q := (RX11, TX11, 29)) rfl rfl) rfl rfl hl.1 rfl (lv_room (Nat.le_of_ble_eq_true rfl)) dX11_begin_382 ⟨Nat.le_of_ble_eq_true rfl, Nat.le_of_ble_eq_true rfl⟩) (fun u_ H locs hw_382 hP hD hS => ?_)
                  obtain ⟨g2_382, rfl⟩ : ∃ z, z = u_ := ⟨_, rfl⟩
                  have hP : va_P D vwCl [(mx, .inr (11, [.int ml, .int mw, .ref ms, .int mgl, .int mhd, .int mre, .int mag, .int mkt, .int mho, .int px, .int p1, .int kx, .ref mk, .ref ma, .ref mo, .ref mg, .ref mm, .ref mt, .int 0, .int 0, .ref mn, .int (-1), .ref me, .ref mq, .int 0, .ref mwo, .ref md, .ref mf, .ref mr])), (ms, .inl (cI, 81, .inl fs)), (mk, .inl (cI, 40, .inl gk)), (ma, .inl (cI, 40, .inl ga)), (mo, .inl (cI, 81, .inl go)), (mg, .inl (cI, 81, .inl gr)), (mt, .inl (cB, 172241, .inl g2_382))] H := hP.sub [4, 0, 1, 5, 2, 3, 6] rfl
                  have hD : va_D A [(mx, .inr (11, [.int ml, .int mw, .ref ms, .int mgl, .int mhd, .int mre, .int mag, .int mkt, .int mho, .int px, .int p1, .int kx, .ref mk, .ref ma, .ref mo, .ref mg, .ref mm, .ref mt, .int 0, .int 0, .ref mn, .int (-1), .ref me, .ref mq, .int 0, .ref mwo, .ref md, .ref mf, .ref mr])), (ms, .inl (cI, 81, .inl fs)), (mk, .inl (cI, 40, .inl gk)), (ma, .inl (cI, 40, .inl ga)), (mo, .inl (cI, 81, .inl go)), (mg, .inl (cI, 81, .inl gr)), (mt, .inl (cB, 172241, .inl g2_382))] := hD.sub [4, 0, 1, 5, 2, 3, 6] (by decide) rfl
                  try dsimp only at hw_382
                  obtain ⟨hgo, hgr, hge, hgs_⟩ := hw_382
                  rw [show (0 : Int32).toInt.toNat = 0 by decide] at hgr hge
                  have hpin := kt_PI.init (ml := ml) (mw := mw) (mkt := mkt) (mhd := mhd) (fr := gr) (fk := gk) (mv := mv) (msd := p1) hpcP hkiP (by omega) hfcP hgr (fun p hp => by have h9 := hge p (by omega); rw [Nat.mul_zero, Nat.zero_add, kt_cut_in hp] at h9; exact h9)
                  refine lv_aload_n hx hb dX11_begin_385 rfl (lv_at hl 1 rfl) ?_
                  refine lv_aload_n hx hb dX11_begin_386 rfl (lv_at hl 1 rfl) ?_
                  refine lv_aload_n hx hb dX11_begin_387 rfl (lv_at hl 1 rfl) ?_
                  refine va_get (D := D) (ci := 11) (C := RX11) (T := TX11) (N := 29) hx hb hts iw_X11_begin_X11 hown hK hP 0 rfl rfl 13 (by decide) (hts (.fieldLink RX11 30 "KingTableModel" "at" "[I") (kt_wp_X11_begin__X11_begin_r1 kt_wm6)) (fun _ h9 => h9) rfl dX11_begin_388 ?_
                  refine lv_aload_n hx hb dX11_begin_391 rfl (lv_at hl 1 rfl) ?_
                  refine va_get (D := D) (ci := 11) (C := RX11) (T := TX11) (N := 29) hx hb hts iw_X11_begin_X11 hown hK hP 0 rfl rfl 11 (by decide) (hts (.fieldLink RX11 135 "KingTableModel" "king" "I") (kt_wp_X11_begin__X11_begin_r1 kt_wm7)) (fun _ h9 => h9) rfl dX11_begin_392 ?_
                  have hi_1 : vp_in kx 40 := by exact kt_in (by omega) (by omega)
                  refine va_iald hx hb hK hP 3 0 rfl rfl hi_1 dX11_begin_395 ?_
                  refine lv_topi (fun a_395 ea_395 => ?_)
                  have hr395 := hgar kx.toInt.toNat (by omega)
                  have he395 : a_395 = ga kx.toInt.toNat := ea_395
                  rw [← he395] at hr395
                  refine kt_pi (wc := [(mx, .inr (11, [.int ml, .int mw, .ref ms, .int mgl, .int mhd, .int mre, .int mag, .int mkt, .int mho, .int px, .int p1, .int kx, .ref mk, .ref ma, .ref mo, .ref mg, .ref mm, .ref mt, .int 0, .int 0, .ref mn, .int (-1), .ref me, .ref mq, .int 0, .ref mwo, .ref md, .ref mf, .ref mr])), (mg, .inl (cI, 81, .inl gr))]) [0, 5] hP hD hS hA rfl (by decide) (fun hPc hDc => va_runV (As := [.int a_395]) (rest := [.ref mx]) ⟨hx, hb, hml, hown, hts⟩ (c_X11_isGoal l D cI cZ cB H.size mx ms mk ma mo mg mm mt mn me mq mwo md mf mr ml mw mgl mhd mre mag mkt mho px p1 kx 0 0 (-1) 0 gr a_395 (by first | assumption | omega | rfl | decide) (by first | assumption | omega | rfl | decide) (by first | assumption | omega | rfl | decide)) (cwV 1 hts gX11_begin_X11_isGoal rfl rfl rfl (by decide +kernel) ⟨Nat.le_of_ble_eq_true rfl, Nat.le_of_ble_eq_true rfl⟩) (kt_preV hN hK hPc hDc 0 (ci := 11) (q := (RX11, TX11, 29)) rfl rfl) rfl rfl hl.1 rfl (lv_room (Nat.le_of_ble_eq_true rfl)) dX11_begin_396 ⟨Nat.le_of_ble_eq_true rfl, Nat.le_of_ble_eq_true rfl⟩) (fun r_396 _ H locs hw_396 hP hS => ?_)
                  refine lv_if_eq (tgt := 406) hx hb dX11_begin_399 (by decide) (fun c_399 => ?_) (fun c_399 => ?_)
                  · have d_399 := c_399
                    simp only [kt_lt, kt_le, kt_eq, kt_c0, kt_c1, kt_c2, kt_c3, kt_c4, kt_c8, kt_c9, kt_cm1, kt_c81, kt_c40, kt_c7, kt_c5, kt_c6, kt_c512, kt_c10, kt_c10000] at d_399
                    refine lv_aload_n hx hb dX11_begin_406 rfl (lv_at hl 1 rfl) ?_
                    refine lv_iload_n hx hb dX11_begin_407 rfl (lv_at hl 2 rfl) ?_
                    refine kt_pi (wc := [(mx, .inr (11, [.int ml, .int mw, .ref ms, .int mgl, .int mhd, .int mre, .int mag, .int mkt, .int mho, .int px, .int p1, .int kx, .ref mk, .ref ma, .ref mo, .ref mg, .ref mm, .ref mt, .int 0, .int 0, .ref mn, .int (-1), .ref me, .ref mq, .int 0, .ref mwo, .ref md, .ref mf, .ref mr])), (ma, .inl (cI, 40, .inl ga)), (mo, .inl (cI, 81, .inl go)), (mg, .inl (cI, 81, .inl gr)), (mk, .inl (cI, 40, .inl gk))]) [0, 3, 4, 5, 2] hP hD hS hA rfl (by decide) (fun hPc hDc => va_runV (As := [.int p1]) (rest := [.ref mx]) ⟨hx, hb, hml, hown, hts⟩ (c_X11_canGo l D cI cZ cB H.size mx ms mk ma mo mg mm mt mn me mq mwo md mf mr ml mw mgl mhd mre mag mkt mho px p1 kx 0 0 (-1) 0 (kt_ct kt_iP fs (kt_sz ml mw)) ga go gr gk p1 hml_ hmw hpcP hfcP.1 (hfcP.2.1.r (by omega))) (cwV 1 hts gX11_begin_X11_canGo rfl rfl rfl (by decide +kernel) ⟨Nat.le_of_ble_eq_true rfl, Nat.le_of_ble_eq_true rfl⟩) (kt_preV hN hK hPc hDc 0 (ci := 11) (q := (RX11, TX11, 29)) rfl rfl) rfl rfl hl.1 rfl (lv_room (Nat.le_of_ble_eq_true rfl)) dX11_begin_408 ⟨Nat.le_of_ble_eq_true rfl, Nat.le_of_ble_eq_true rfl⟩) (fun r_408 _ H locs hw_408 hP hS => ?_)
                    refine lv_if_eq (tgt := 418) hx hb dX11_begin_411 (by decide) (fun c_411 => ?_) (fun c_411 => ?_)
                    · have d_411 := c_411
                      simp only [kt_lt, kt_le, kt_eq, kt_c0, kt_c1, kt_c2, kt_c3, kt_c4, kt_c8, kt_c9, kt_cm1, kt_c81, kt_c40, kt_c7, kt_c5, kt_c6, kt_c512, kt_c10, kt_c10000] at d_411
                      refine lv_iconst (v := 3) hx hb dX11_begin_418 (by decide) ?_
                      refine lv_iload_n hx hb dX11_begin_419 rfl (lv_at hl 2 rfl) ?_
                      refine lv_isub hx hb dX11_begin_420 ?_
                      refine lv_topi (fun t_420 et_420 => ?_)
                      first | have hk_420 := kt_subx et_420 (by first | omega | (simp only [kt_c0, kt_c1, kt_c2, kt_c3, kt_c4, kt_c8, kt_c9, kt_cm1, kt_c81, kt_c40, kt_c7, kt_c5, kt_c6, kt_c512, kt_c10, kt_c10000]; omega)) (by first | omega | (simp only [kt_c0, kt_c1, kt_c2, kt_c3, kt_c4, kt_c8, kt_c9, kt_cm1, kt_c81, kt_c40, kt_c7, kt_c5, kt_c6, kt_c512, kt_c10, kt_c10000]; omega)) | obtain ⟨k_420, hk_420, hm_420, hM_420⟩ := kt_subk et_420
                      try simp only [kt_c0, kt_c1, kt_c2, kt_c3, kt_c4, kt_c8, kt_c9, kt_cm1, kt_c81, kt_c40, kt_c7, kt_c5, kt_c6, kt_c512, kt_c10, kt_c10000] at hk_420
                      refine va_put (D := D) (ci := 11) (v := .int t_420) (ty := .int) (C := RX11) (T := TX11) (N := 29) hx hb hts iw_X11_begin_X11 tyX11 tyX11_ok nmX11 hown hK hP hD hS 0 rfl rfl 8 (by decide) (hts (.fieldLink RX11 73 "KingTableModel" "how" "I") (kt_wp_X11_begin__X11_begin_r1 kt_wm0)) (fun _ h9 => h9) rfl (by decide +kernel) rfl rfl (Nat.le_of_ble_eq_true rfl) dX11_begin_421 (fun H locs hP hD hS => ?_)
                      have hP : va_P D vwCl [(mx, .inr (11, [.int ml, .int mw, .ref ms, .int mgl, .int mhd, .int mre, .int mag, .int mkt, .int t_420, .int px, .int p1, .int kx, .ref mk, .ref ma, .ref mo, .ref mg, .ref mm, .ref mt, .int 0, .int 0, .ref mn, .int (-1), .ref me, .ref mq, .int 0, .ref mwo, .ref md, .ref mf, .ref mr])), (ms, .inl (cI, 81, .inl fs)), (mk, .inl (cI, 40, .inl gk)), (ma, .inl (cI, 40, .inl ga)), (mo, .inl (cI, 81, .inl go)), (mg, .inl (cI, 81, .inl gr)), (mt, .inl (cB, 172241, .inl g2_382))] H := hP
                      have hD : va_D A [(mx, .inr (11, [.int ml, .int mw, .ref ms, .int mgl, .int mhd, .int mre, .int mag, .int mkt, .int t_420, .int px, .int p1, .int kx, .ref mk, .ref ma, .ref mo, .ref mg, .ref mm, .ref mt, .int 0, .int 0, .ref mn, .int (-1), .ref me, .ref mq, .int 0, .ref mwo, .ref md, .ref mf, .ref mr])), (ms, .inl (cI, 81, .inl fs)), (mk, .inl (cI, 40, .inl gk)), (ma, .inl (cI, 40, .inl ga)), (mo, .inl (cI, 81, .inl go)), (mg, .inl (cI, 81, .inl gr)), (mt, .inl (cB, 172241, .inl g2_382))] := hD
                      refine lv_aload_n hx hb dX11_begin_424 rfl (lv_at hl 1 rfl) ?_
                      refine va_get (D := D) (ci := 11) (C := RX11) (T := TX11) (N := 29) hx hb hts iw_X11_begin_X11 hown hK hP 0 rfl rfl 9 (by decide) (hts (.fieldLink RX11 103 "KingTableModel" "pieces" "I") (kt_wp_X11_begin__X11_begin_r1 kt_wm2)) (fun _ h9 => h9) rfl dX11_begin_425 ?_
                      exact kt_ri (t_420, px, p1, kx, 0, 0, (-1), 0, gk, ga, go, gr, g2_382) hx hb hr hlk hS dX11_begin_428 hP hD (by show (px.toInt = -1 ∧ ¬ (mho.toInt = 0 ∧ (p1.toInt = 0 ∨ p1.toInt = 1) ∧ kt_ok fs (kt_sz ml mw)) ∧ t_420 = mho ∧ px = mpc ∧ p1 = msd ∧ kx = mki ∧ (0 : Int32) = mdn ∧ (0 : Int32) = mun ∧ (-1 : Int32) = mtk ∧ (0 : Int32) = msv ∧ gk = fk ∧ ga = fa ∧ go = fo ∧ gr = fr ∧ g2_382 = gs_) ∨ ((mho.toInt = 0 ∧ (p1.toInt = 0 ∨ p1.toInt = 1) ∧ kt_ok fs (kt_sz ml mw)) ∧ px = nI (kt_ct kt_iP fs (kt_sz ml mw)) ∧ (1 ≤ t_420.toInt ∧ t_420.toInt ≤ 3) ∧ ((0 : Int32) = 0 ∧ (0 : Int32) = 0 ∧ (0 : Int32) = 0 ∧ px = px) ∧ kt_PI ml mw px p1 kx (0 : Int32) (0 : Int32) mkt mhd gr gk ga go mv g2_382 (kt_ct kt_iP fs (kt_sz ml mw))); first
                           | exact Or.inl ⟨by decide, fun h => by omega, rfl, rfl, rfl, rfl, rfl, rfl, rfl, rfl, rfl, rfl, rfl, rfl, rfl⟩
                           | exact Or.inl ⟨by decide, fun h => (hw_10.f c_13) (by omega), rfl, rfl, rfl, rfl, rfl, rfl, rfl, rfl, rfl, rfl, rfl, rfl, rfl⟩
                           | exact Or.inl ⟨by decide, fun h => by have h9 := h.2.2; unfold kt_ok at h9; omega, rfl, rfl, rfl, rfl, rfl, rfl, rfl, rfl, rfl, rfl, rfl, rfl, rfl⟩
                           | exact Or.inr ⟨⟨by omega, by omega, hok⟩, hpx, by first | decide | omega, ⟨rfl, rfl, rfl, rfl⟩, hpin⟩)
                    · have d_411 := c_411
                      simp only [kt_lt, kt_le, kt_eq, kt_c0, kt_c1, kt_c2, kt_c3, kt_c4, kt_c8, kt_c9, kt_cm1, kt_c81, kt_c40, kt_c7, kt_c5, kt_c6, kt_c512, kt_c10, kt_c10000] at d_411
                      refine lv_iconst (v := 1) hx hb dX11_begin_414 (by decide) ?_
                      refine lv_goto (tgt := 421) hx hb dX11_begin_415 (by decide) ?_
                      refine va_put (D := D) (ci := 11) (v := .int 1) (ty := .int) (C := RX11) (T := TX11) (N := 29) hx hb hts iw_X11_begin_X11 tyX11 tyX11_ok nmX11 hown hK hP hD hS 0 rfl rfl 8 (by decide) (hts (.fieldLink RX11 73 "KingTableModel" "how" "I") (kt_wp_X11_begin__X11_begin_r1 kt_wm0)) (fun _ h9 => h9) rfl (by decide +kernel) rfl rfl (Nat.le_of_ble_eq_true rfl) dX11_begin_421 (fun H locs hP hD hS => ?_)
                      have hP : va_P D vwCl [(mx, .inr (11, [.int ml, .int mw, .ref ms, .int mgl, .int mhd, .int mre, .int mag, .int mkt, .int 1, .int px, .int p1, .int kx, .ref mk, .ref ma, .ref mo, .ref mg, .ref mm, .ref mt, .int 0, .int 0, .ref mn, .int (-1), .ref me, .ref mq, .int 0, .ref mwo, .ref md, .ref mf, .ref mr])), (ms, .inl (cI, 81, .inl fs)), (mk, .inl (cI, 40, .inl gk)), (ma, .inl (cI, 40, .inl ga)), (mo, .inl (cI, 81, .inl go)), (mg, .inl (cI, 81, .inl gr)), (mt, .inl (cB, 172241, .inl g2_382))] H := hP
                      have hD : va_D A [(mx, .inr (11, [.int ml, .int mw, .ref ms, .int mgl, .int mhd, .int mre, .int mag, .int mkt, .int 1, .int px, .int p1, .int kx, .ref mk, .ref ma, .ref mo, .ref mg, .ref mm, .ref mt, .int 0, .int 0, .ref mn, .int (-1), .ref me, .ref mq, .int 0, .ref mwo, .ref md, .ref mf, .ref mr])), (ms, .inl (cI, 81, .inl fs)), (mk, .inl (cI, 40, .inl gk)), (ma, .inl (cI, 40, .inl ga)), (mo, .inl (cI, 81, .inl go)), (mg, .inl (cI, 81, .inl gr)), (mt, .inl (cB, 172241, .inl g2_382))] := hD
                      refine lv_aload_n hx hb dX11_begin_424 rfl (lv_at hl 1 rfl) ?_
                      refine va_get (D := D) (ci := 11) (C := RX11) (T := TX11) (N := 29) hx hb hts iw_X11_begin_X11 hown hK hP 0 rfl rfl 9 (by decide) (hts (.fieldLink RX11 103 "KingTableModel" "pieces" "I") (kt_wp_X11_begin__X11_begin_r1 kt_wm2)) (fun _ h9 => h9) rfl dX11_begin_425 ?_
                      exact kt_ri (1, px, p1, kx, 0, 0, (-1), 0, gk, ga, go, gr, g2_382) hx hb hr hlk hS dX11_begin_428 hP hD (by show (px.toInt = -1 ∧ ¬ (mho.toInt = 0 ∧ (p1.toInt = 0 ∨ p1.toInt = 1) ∧ kt_ok fs (kt_sz ml mw)) ∧ (1 : Int32) = mho ∧ px = mpc ∧ p1 = msd ∧ kx = mki ∧ (0 : Int32) = mdn ∧ (0 : Int32) = mun ∧ (-1 : Int32) = mtk ∧ (0 : Int32) = msv ∧ gk = fk ∧ ga = fa ∧ go = fo ∧ gr = fr ∧ g2_382 = gs_) ∨ ((mho.toInt = 0 ∧ (p1.toInt = 0 ∨ p1.toInt = 1) ∧ kt_ok fs (kt_sz ml mw)) ∧ px = nI (kt_ct kt_iP fs (kt_sz ml mw)) ∧ (1 ≤ (1 : Int32).toInt ∧ (1 : Int32).toInt ≤ 3) ∧ ((0 : Int32) = 0 ∧ (0 : Int32) = 0 ∧ (0 : Int32) = 0 ∧ px = px) ∧ kt_PI ml mw px p1 kx (0 : Int32) (0 : Int32) mkt mhd gr gk ga go mv g2_382 (kt_ct kt_iP fs (kt_sz ml mw))); first
                           | exact Or.inl ⟨by decide, fun h => by omega, rfl, rfl, rfl, rfl, rfl, rfl, rfl, rfl, rfl, rfl, rfl, rfl, rfl⟩
                           | exact Or.inl ⟨by decide, fun h => (hw_10.f c_13) (by omega), rfl, rfl, rfl, rfl, rfl, rfl, rfl, rfl, rfl, rfl, rfl, rfl, rfl⟩
                           | exact Or.inl ⟨by decide, fun h => by have h9 := h.2.2; unfold kt_ok at h9; omega, rfl, rfl, rfl, rfl, rfl, rfl, rfl, rfl, rfl, rfl, rfl, rfl, rfl⟩
                           | exact Or.inr ⟨⟨by omega, by omega, hok⟩, hpx, by first | decide | omega, ⟨rfl, rfl, rfl, rfl⟩, hpin⟩)
                  · have d_399 := c_399
                    simp only [kt_lt, kt_le, kt_eq, kt_c0, kt_c1, kt_c2, kt_c3, kt_c4, kt_c8, kt_c9, kt_cm1, kt_c81, kt_c40, kt_c7, kt_c5, kt_c6, kt_c512, kt_c10, kt_c10000] at d_399
                    refine lv_iconst (v := 2) hx hb dX11_begin_402 (by decide) ?_
                    refine lv_goto (tgt := 421) hx hb dX11_begin_403 (by decide) ?_
                    refine va_put (D := D) (ci := 11) (v := .int 2) (ty := .int) (C := RX11) (T := TX11) (N := 29) hx hb hts iw_X11_begin_X11 tyX11 tyX11_ok nmX11 hown hK hP hD hS 0 rfl rfl 8 (by decide) (hts (.fieldLink RX11 73 "KingTableModel" "how" "I") (kt_wp_X11_begin__X11_begin_r1 kt_wm0)) (fun _ h9 => h9) rfl (by decide +kernel) rfl rfl (Nat.le_of_ble_eq_true rfl) dX11_begin_421 (fun H locs hP hD hS => ?_)
                    have hP : va_P D vwCl [(mx, .inr (11, [.int ml, .int mw, .ref ms, .int mgl, .int mhd, .int mre, .int mag, .int mkt, .int 2, .int px, .int p1, .int kx, .ref mk, .ref ma, .ref mo, .ref mg, .ref mm, .ref mt, .int 0, .int 0, .ref mn, .int (-1), .ref me, .ref mq, .int 0, .ref mwo, .ref md, .ref mf, .ref mr])), (ms, .inl (cI, 81, .inl fs)), (mk, .inl (cI, 40, .inl gk)), (ma, .inl (cI, 40, .inl ga)), (mo, .inl (cI, 81, .inl go)), (mg, .inl (cI, 81, .inl gr)), (mt, .inl (cB, 172241, .inl g2_382))] H := hP
                    have hD : va_D A [(mx, .inr (11, [.int ml, .int mw, .ref ms, .int mgl, .int mhd, .int mre, .int mag, .int mkt, .int 2, .int px, .int p1, .int kx, .ref mk, .ref ma, .ref mo, .ref mg, .ref mm, .ref mt, .int 0, .int 0, .ref mn, .int (-1), .ref me, .ref mq, .int 0, .ref mwo, .ref md, .ref mf, .ref mr])), (ms, .inl (cI, 81, .inl fs)), (mk, .inl (cI, 40, .inl gk)), (ma, .inl (cI, 40, .inl ga)), (mo, .inl (cI, 81, .inl go)), (mg, .inl (cI, 81, .inl gr)), (mt, .inl (cB, 172241, .inl g2_382))] := hD
                    refine lv_aload_n hx hb dX11_begin_424 rfl (lv_at hl 1 rfl) ?_
                    refine va_get (D := D) (ci := 11) (C := RX11) (T := TX11) (N := 29) hx hb hts iw_X11_begin_X11 hown hK hP 0 rfl rfl 9 (by decide) (hts (.fieldLink RX11 103 "KingTableModel" "pieces" "I") (kt_wp_X11_begin__X11_begin_r1 kt_wm2)) (fun _ h9 => h9) rfl dX11_begin_425 ?_
                    exact kt_ri (2, px, p1, kx, 0, 0, (-1), 0, gk, ga, go, gr, g2_382) hx hb hr hlk hS dX11_begin_428 hP hD (by show (px.toInt = -1 ∧ ¬ (mho.toInt = 0 ∧ (p1.toInt = 0 ∨ p1.toInt = 1) ∧ kt_ok fs (kt_sz ml mw)) ∧ (2 : Int32) = mho ∧ px = mpc ∧ p1 = msd ∧ kx = mki ∧ (0 : Int32) = mdn ∧ (0 : Int32) = mun ∧ (-1 : Int32) = mtk ∧ (0 : Int32) = msv ∧ gk = fk ∧ ga = fa ∧ go = fo ∧ gr = fr ∧ g2_382 = gs_) ∨ ((mho.toInt = 0 ∧ (p1.toInt = 0 ∨ p1.toInt = 1) ∧ kt_ok fs (kt_sz ml mw)) ∧ px = nI (kt_ct kt_iP fs (kt_sz ml mw)) ∧ (1 ≤ (2 : Int32).toInt ∧ (2 : Int32).toInt ≤ 3) ∧ ((0 : Int32) = 0 ∧ (0 : Int32) = 0 ∧ (0 : Int32) = 0 ∧ px = px) ∧ kt_PI ml mw px p1 kx (0 : Int32) (0 : Int32) mkt mhd gr gk ga go mv g2_382 (kt_ct kt_iP fs (kt_sz ml mw))); first
                         | exact Or.inl ⟨by decide, fun h => by omega, rfl, rfl, rfl, rfl, rfl, rfl, rfl, rfl, rfl, rfl, rfl, rfl, rfl⟩
                         | exact Or.inl ⟨by decide, fun h => (hw_10.f c_13) (by omega), rfl, rfl, rfl, rfl, rfl, rfl, rfl, rfl, rfl, rfl, rfl, rfl, rfl⟩
                         | exact Or.inl ⟨by decide, fun h => by have h9 := h.2.2; unfold kt_ok at h9; omega, rfl, rfl, rfl, rfl, rfl, rfl, rfl, rfl, rfl, rfl, rfl, rfl, rfl⟩
                         | exact Or.inr ⟨⟨by omega, by omega, hok⟩, hpx, by first | decide | omega, ⟨rfl, rfl, rfl, rfl⟩, hpin⟩)
                · have d_183 := c_183
                  simp only [kt_lt, kt_le, kt_eq, kt_c0, kt_c1, kt_c2, kt_c3, kt_c4, kt_c8, kt_c9, kt_cm1, kt_c81, kt_c40, kt_c7, kt_c5, kt_c6, kt_c512, kt_c10, kt_c10000] at d_183
                  have hPb1 := hPb (f + 1) (by omega)
                  have hPb0 := hPb f (by omega)
                  have hpi_ : px.toInt = (kt_ct kt_iP (kt_bs fs (kt_sz ml mw)) f : Int) := by rw [hpx, kt_nI (by omega)]
                  refine lv_iload hx hb dX11_begin_186 (lv_at hl 0 rfl) ?_
                  refine lv_aload_n hx hb dX11_begin_188 rfl (lv_at hl 1 rfl) ?_
                  refine kt_pi (wc := [(mx, .inr (11, [.int ml, .int mw, .ref ms, .int mgl, .int mhd, .int mre, .int mag, .int mkt, .int mho, .int px, .int msd, .int kx, .ref mk, .ref ma, .ref mo, .ref mg, .ref mm, .ref mt, .int mdn, .int mun, .ref mn, .int mtk, .ref me, .ref mq, .int msv, .ref mwo, .ref md, .ref mf, .ref mr]))]) [0] hP hD hS hA rfl (by decide) (fun hPc hDc => va_runV (As := []) (rest := [.int (nI f)]) ⟨hx, hb, hml, hown, hts⟩ (c_X11_fields l D cI cZ cB H.size mx ms mk ma mo mg mm mt mn me mq mwo md mf mr ml mw mgl mhd mre mag mkt mho px msd kx mdn mun mtk msv (by first | assumption | omega | rfl | decide) (by first | assumption | omega | rfl | decide)) (cwV 0 hts gX11_begin_X11_fields rfl rfl rfl (by decide +kernel) ⟨Nat.le_of_ble_eq_true rfl, Nat.le_of_ble_eq_true rfl⟩) (kt_preV hN hK hPc hDc 0 (ci := 11) (q := (RX11, TX11, 29)) rfl rfl) rfl rfl hl.1 rfl (lv_room (Nat.le_of_ble_eq_true rfl)) dX11_begin_189 ⟨Nat.le_of_ble_eq_true rfl, Nat.le_of_ble_eq_true rfl⟩) (fun r_189 _ H locs hw_189 hP hS => ?_)
                  refine kt_join (σ := Int32) 206 8 (fun u => [(mx, .inr (11, [.int ml, .int mw, .ref ms, .int mgl, .int mhd, .int mre, .int mag, .int mkt, .int mho, .int px, .int msd, .int kx, .ref mk, .ref ma, .ref mo, .ref mg, .ref mm, .ref mt, .int mdn, .int mun, .ref mn, .int mtk, .ref me, .ref mq, .int msv, .ref mwo, .ref md, .ref mf, .ref mr])), (ms, .inl (cI, 81, .inl fs)), (mk, .inl (cI, 40, .inl gk)), (ma, .inl (cI, 40, .inl ga)), (mo, .inl (cI, 81, .inl go)), (mg, .inl (cI, 81, .inl gr)), (mt, .inl (cB, 172241, .inl gs_))]) (fun u => [(6, .int (nI f)), (0, .ref mx), (1, .int p1)]) (fun u => [.int u]) (fun u => u = kt_bs fs (kt_sz ml mw) f ∧ 0 ≤ u.toInt ∧ u.toInt ≤ 7) (D := D) (A := A) (H0 := s.heap) (fun u hI H locs hP hD hS ls hl => ?_) (fun j_206 => ?_)
                  · obtain ⟨sg, rfl⟩ : ∃ z, z = u := ⟨_, rfl⟩
                    have hP : va_P D vwCl [(mx, .inr (11, [.int ml, .int mw, .ref ms, .int mgl, .int mhd, .int mre, .int mag, .int mkt, .int mho, .int px, .int msd, .int kx, .ref mk, .ref ma, .ref mo, .ref mg, .ref mm, .ref mt, .int mdn, .int mun, .ref mn, .int mtk, .ref me, .ref mq, .int msv, .ref mwo, .ref md, .ref mf, .ref mr])), (ms, .inl (cI, 81, .inl fs)), (mk, .inl (cI, 40, .inl gk)), (ma, .inl (cI, 40, .inl ga)), (mo, .inl (cI, 81, .inl go)), (mg, .inl (cI, 81, .inl gr)), (mt, .inl (cB, 172241, .inl gs_))] H := hP
                    have hD : va_D A [(mx, .inr (11, [.int ml, .int mw, .ref ms, .int mgl, .int mhd, .int mre, .int mag, .int mkt, .int mho, .int px, .int msd, .int kx, .ref mk, .ref ma, .ref mo, .ref mg, .ref mm, .ref mt, .int mdn, .int mun, .ref mn, .int mtk, .ref me, .ref mq, .int msv, .ref mwo, .ref md, .ref mf, .ref mr])), (ms, .inl (cI, 81, .inl fs)), (mk, .inl (cI, 40, .inl gk)), (ma, .inl (cI, 40, .inl ga)), (mo, .inl (cI, 81, .inl go)), (mg, .inl (cI, 81, .inl gr)), (mt, .inl (cB, 172241, .inl gs_))] := hD
                    have hl : lv_has ls 8 [(6, .int (nI f)), (0, .ref mx), (1, .int p1)] := hl
                    have hI : sg = kt_bs fs (kt_sz ml mw) f ∧ 0 ≤ sg.toInt ∧ sg.toInt ≤ 7 := hI
                    obtain ⟨hsg, hsr⟩ := hI
                    have hsp := kt_sP' hsr
                    refine lv_istore (lv' := [(7, .int sg), (6, .int (nI f)), (0, .ref mx), (1, .int p1)]) hx hb dX11_begin_206 hl (by decide) rfl (fun ls hl => ?_)
                    refine lv_aload_n hx hb dX11_begin_208 rfl (lv_at hl 2 rfl) ?_
                    refine va_get (D := D) (ci := 11) (C := RX11) (T := TX11) (N := 29) hx hb hts iw_X11_begin_X11 hown hK hP 0 rfl rfl 15 (by decide) (hts (.fieldLink RX11 36 "KingTableModel" "ground" "[I") (kt_wp_X11_begin__X11_begin_r1 kt_wm3)) (fun _ h9 => h9) rfl dX11_begin_209 ?_
                    refine lv_iload hx hb dX11_begin_212 (lv_at hl 1 rfl) ?_
                    refine lv_iload hx hb dX11_begin_214 (lv_at hl 0 rfl) ?_
                    refine lv_iconst (v := 5) hx hb dX11_begin_216 (by decide) ?_
                    refine kt_join (σ := Int32) 244 8 (fun u => [(mx, .inr (11, [.int ml, .int mw, .ref ms, .int mgl, .int mhd, .int mre, .int mag, .int mkt, .int mho, .int px, .int msd, .int kx, .ref mk, .ref ma, .ref mo, .ref mg, .ref mm, .ref mt, .int mdn, .int mun, .ref mn, .int mtk, .ref me, .ref mq, .int msv, .ref mwo, .ref md, .ref mf, .ref mr])), (ms, .inl (cI, 81, .inl fs)), (mk, .inl (cI, 40, .inl gk)), (ma, .inl (cI, 40, .inl ga)), (mo, .inl (cI, 81, .inl go)), (mg, .inl (cI, 81, .inl gr)), (mt, .inl (cB, 172241, .inl gs_))]) (fun u => [(7, .int sg), (6, .int (nI f)), (0, .ref mx), (1, .int p1)]) (fun u => [.int u, .int (nI f), .ref mg]) (fun u => True) (D := D) (A := A) (H0 := s.heap) (fun u hI H locs hP hD hS ls hl => ?_) (fun j_244 => ?_)
                    · obtain ⟨gv, rfl⟩ : ∃ z, z = u := ⟨_, rfl⟩
                      have hP : va_P D vwCl [(mx, .inr (11, [.int ml, .int mw, .ref ms, .int mgl, .int mhd, .int mre, .int mag, .int mkt, .int mho, .int px, .int msd, .int kx, .ref mk, .ref ma, .ref mo, .ref mg, .ref mm, .ref mt, .int mdn, .int mun, .ref mn, .int mtk, .ref me, .ref mq, .int msv, .ref mwo, .ref md, .ref mf, .ref mr])), (ms, .inl (cI, 81, .inl fs)), (mk, .inl (cI, 40, .inl gk)), (ma, .inl (cI, 40, .inl ga)), (mo, .inl (cI, 81, .inl go)), (mg, .inl (cI, 81, .inl gr)), (mt, .inl (cB, 172241, .inl gs_))] H := hP
                      have hD : va_D A [(mx, .inr (11, [.int ml, .int mw, .ref ms, .int mgl, .int mhd, .int mre, .int mag, .int mkt, .int mho, .int px, .int msd, .int kx, .ref mk, .ref ma, .ref mo, .ref mg, .ref mm, .ref mt, .int mdn, .int mun, .ref mn, .int mtk, .ref me, .ref mq, .int msv, .ref mwo, .ref md, .ref mf, .ref mr])), (ms, .inl (cI, 81, .inl fs)), (mk, .inl (cI, 40, .inl gk)), (ma, .inl (cI, 40, .inl ga)), (mo, .inl (cI, 81, .inl go)), (mg, .inl (cI, 81, .inl gr)), (mt, .inl (cB, 172241, .inl gs_))] := hD
                      have hl : lv_has ls 8 [(7, .int sg), (6, .int (nI f)), (0, .ref mx), (1, .int p1)] := hl
                      have hi_2 : vp_in (nI f) 81 := by exact kt_in (by omega) (by omega)
                      refine va_iast hx hb hK hP hD hS 5 0 rfl rfl hi_2 dX11_begin_244 (fun H locs hP hD hS => ?_)
                      have hP : va_P D vwCl [(mx, .inr (11, [.int ml, .int mw, .ref ms, .int mgl, .int mhd, .int mre, .int mag, .int mkt, .int mho, .int px, .int msd, .int kx, .ref mk, .ref ma, .ref mo, .ref mg, .ref mm, .ref mt, .int mdn, .int mun, .ref mn, .int mtk, .ref me, .ref mq, .int msv, .ref mwo, .ref md, .ref mf, .ref mr])), (ms, .inl (cI, 81, .inl fs)), (mk, .inl (cI, 40, .inl gk)), (ma, .inl (cI, 40, .inl ga)), (mo, .inl (cI, 81, .inl go)), (mg, .inl (cI, 81, .inl (upd gr (nI f).toNatClampNeg gv))), (mt, .inl (cB, 172241, .inl gs_))] H := hP
                      have hD : va_D A [(mx, .inr (11, [.int ml, .int mw, .ref ms, .int mgl, .int mhd, .int mre, .int mag, .int mkt, .int mho, .int px, .int msd, .int kx, .ref mk, .ref ma, .ref mo, .ref mg, .ref mm, .ref mt, .int mdn, .int mun, .ref mn, .int mtk, .ref me, .ref mq, .int msv, .ref mwo, .ref md, .ref mf, .ref mr])), (ms, .inl (cI, 81, .inl fs)), (mk, .inl (cI, 40, .inl gk)), (ma, .inl (cI, 40, .inl ga)), (mo, .inl (cI, 81, .inl go)), (mg, .inl (cI, 81, .inl (upd gr (nI f).toNatClampNeg gv))), (mt, .inl (cB, 172241, .inl gs_))] := hD
                      refine lv_aload_n hx hb dX11_begin_245 rfl (lv_at hl 2 rfl) ?_
                      refine va_get (D := D) (ci := 11) (C := RX11) (T := TX11) (N := 29) hx hb hts iw_X11_begin_X11 hown hK hP 0 rfl rfl 14 (by decide) (hts (.fieldLink RX11 33 "KingTableModel" "on" "[I") (kt_wp_X11_begin__X11_begin_r1 kt_wm4)) (fun _ h9 => h9) rfl dX11_begin_246 ?_
                      refine lv_iload hx hb dX11_begin_249 (lv_at hl 1 rfl) ?_
                      refine lv_iconst (v := (-1)) hx hb dX11_begin_251 (by decide) ?_
                      have hi_3 : vp_in (nI f) 81 := by exact kt_in (by omega) (by omega)
                      refine va_iast hx hb hK hP hD hS 4 0 rfl rfl hi_3 dX11_begin_252 (fun H locs hP hD hS => ?_)
                      have hP : va_P D vwCl [(mx, .inr (11, [.int ml, .int mw, .ref ms, .int mgl, .int mhd, .int mre, .int mag, .int mkt, .int mho, .int px, .int msd, .int kx, .ref mk, .ref ma, .ref mo, .ref mg, .ref mm, .ref mt, .int mdn, .int mun, .ref mn, .int mtk, .ref me, .ref mq, .int msv, .ref mwo, .ref md, .ref mf, .ref mr])), (ms, .inl (cI, 81, .inl fs)), (mk, .inl (cI, 40, .inl gk)), (ma, .inl (cI, 40, .inl ga)), (mo, .inl (cI, 81, .inl (upd go (nI f).toNatClampNeg (-1)))), (mg, .inl (cI, 81, .inl (upd gr (nI f).toNatClampNeg gv))), (mt, .inl (cB, 172241, .inl gs_))] H := hP
                      have hD : va_D A [(mx, .inr (11, [.int ml, .int mw, .ref ms, .int mgl, .int mhd, .int mre, .int mag, .int mkt, .int mho, .int px, .int msd, .int kx, .ref mk, .ref ma, .ref mo, .ref mg, .ref mm, .ref mt, .int mdn, .int mun, .ref mn, .int mtk, .ref me, .ref mq, .int msv, .ref mwo, .ref md, .ref mf, .ref mr])), (ms, .inl (cI, 81, .inl fs)), (mk, .inl (cI, 40, .inl gk)), (ma, .inl (cI, 40, .inl ga)), (mo, .inl (cI, 81, .inl (upd go (nI f).toNatClampNeg (-1)))), (mg, .inl (cI, 81, .inl (upd gr (nI f).toNatClampNeg gv))), (mt, .inl (cB, 172241, .inl gs_))] := hD
                      refine lv_iload hx hb dX11_begin_253 (lv_at hl 0 rfl) ?_
                      refine lv_if_eq (tgt := 349) hx hb dX11_begin_255 (by decide) (fun c_255 => ?_) (fun c_255 => ?_)
                      · have d_255 := c_255
                        simp only [kt_lt, kt_le, kt_eq, kt_c0, kt_c1, kt_c2, kt_c3, kt_c4, kt_c8, kt_c9, kt_cm1, kt_c81, kt_c40, kt_c7, kt_c5, kt_c6, kt_c512, kt_c10, kt_c10000] at d_255
                        refine lv_iinc (v := nI (f + 1)) (lv' := [(6, .int (nI (f + 1))), (7, .int sg), (0, .ref mx), (1, .int p1)]) hx hb dX11_begin_349 hl (k := 1) rfl (nI_1 _) (by decide) rfl (fun ls hl => ?_)
                        refine lv_goto (tgt := 179) hx hb dX11_begin_352 (by decide) ?_
                        exact ih_179 ((f + 1), px, kx, gk, ga, (upd go (nI f).toNatClampNeg (-1)), (upd gr (nI f).toNatClampNeg gv)) (by show ((f + 1) ≤ 81 ∧ 81 < (f + 1) + n_179) ∧ (px = nI (kt_ct kt_iP (kt_bs fs (kt_sz ml mw)) (f + 1))) ∧ (∀ q, q < kt_ct kt_iP (kt_bs fs (kt_sz ml mw)) (f + 1) → 0 ≤ (ga q).toInt ∧ (ga q).toInt < ((f + 1) : Int) ∧ (ga q).toInt < ml.toInt * mw.toInt) ∧ (∀ j, j < (f + 1) → (upd go (nI f).toNatClampNeg (-1)) j = -1 ∨ ∃ q : Nat, q < kt_ct kt_iP (kt_bs fs (kt_sz ml mw)) (f + 1) ∧ (upd go (nI f).toNatClampNeg (-1)) j = nI q ∧ ga q = nI j) ∧ (∀ q, q < kt_ct kt_iP (kt_bs fs (kt_sz ml mw)) (f + 1) → ∀ j, j < (f + 1) → ga q = nI j → (upd go (nI f).toNatClampNeg (-1)) j = nI q) ∧ (1 ≤ kt_ct kt_iK (kt_bs fs (kt_sz ml mw)) (f + 1) → 0 ≤ kx.toInt ∧ kx.toInt < (kt_ct kt_iP (kt_bs fs (kt_sz ml mw)) (f + 1) : Int)); first
                                  | (have hkd0 : kt_kd sg = 0 := by first | (rw [c_255]; decide) | (rw [c_261]; decide) | (rw [c_268]; decide)
                                     have hiPn : ¬ kt_iP ((kt_bs fs (kt_sz ml mw)) f) = true := by rw [← hsg]; unfold kt_iP; rw [hkd0]; decide
                                     have hiKn : ¬ kt_iK ((kt_bs fs (kt_sz ml mw)) f) = true := by rw [← hsg]; unfold kt_iK; rw [hkd0]; decide
                                     rw [nI_clamp (by omega), kt_ct_no hiPn, kt_ct_no hiKn]
                                     refine ⟨by omega, hpx, fun qq hq => by have := hgar qq hq; omega, fun j hj => ?_, fun qq hq j hj hg => ?_, hkx⟩
                                     · exact if e : j = f then Or.inl (by rw [e, pk_us]) else (by rw [pk_un e]; exact hcn j (by omega))
                                     · have h9 := hgar qq hq
                                       have hjf : j ≠ f := fun e => by rw [hg, kt_nI (by omega)] at h9; omega
                                       rw [pk_un hjf]
                                       exact hck qq hq j (by omega) hg)
                                  | (have e5 : t_345 = nI (kt_ct kt_iP (kt_bs fs (kt_sz ml mw)) f + 1) := by rw [et_345, hpx]; exact nI_1 _
                                     have epx : px.toNatClampNeg = kt_ct kt_iP (kt_bs fs (kt_sz ml mw)) f := kt_clamp hpi_
                                     rw [nI_clamp (by omega), kt_ct_yes hiPy, epx, fa_upd_twice_]
                                     refine ⟨by omega, e5, fun qq hq => ?_, fun j hj => ?_, fun qq hq j hj hg => ?_, fun h => ?_⟩
                                     · exact if e : qq = kt_ct kt_iP (kt_bs fs (kt_sz ml mw)) f then (by rw [e, pk_us, kt_nI (by omega)]; omega) else (by rw [pk_un e]; have := hgar qq (by omega); omega)
                                     · exact if e : j = f then Or.inr ⟨kt_ct kt_iP (kt_bs fs (kt_sz ml mw)) f, by omega, by rw [e, pk_us]; exact hpx, by rw [e, pk_us]⟩ else (by rw [pk_un e]; rcases hcn j (by omega) with h | ⟨qq, hq, h5, h6⟩; exact Or.inl h; exact Or.inr ⟨qq, by omega, h5, by rw [pk_un (by omega)]; exact h6⟩)
                                     · by_cases e : qq = kt_ct kt_iP (kt_bs fs (kt_sz ml mw)) f
                                       · rw [e, pk_us] at hg
                                         have hff := kt_nIinj (by omega) (by omega) hg
                                         rw [← hff, pk_us, e]; exact hpx
                                       · rw [pk_un e] at hg
                                         have h9 := hgar qq (by omega)
                                         have hjf : j ≠ f := fun e2 => by rw [hg, kt_nI (by omega)] at h9; omega
                                         rw [pk_un hjf]
                                         exact hck qq (by omega) j (by omega) hg
                                     · first
                                       | (have hkq := c_328
                                          have hiKn : ¬ kt_iK ((kt_bs fs (kt_sz ml mw)) f) = true := by rw [← hsg]; unfold kt_iK; rw [hkd, ← ea_326]; simpa using hkq
                                          have := hkx (by rw [kt_ct_no hiKn] at h; exact h)
                                          omega)
                                       | omega)) H _ hP hD hS ls (lv_sub hl [0, 2, 3] rfl)
                      · have d_255 := c_255
                        simp only [kt_lt, kt_le, kt_eq, kt_c0, kt_c1, kt_c2, kt_c3, kt_c4, kt_c8, kt_c9, kt_cm1, kt_c81, kt_c40, kt_c7, kt_c5, kt_c6, kt_c512, kt_c10, kt_c10000] at d_255
                        refine lv_iload hx hb dX11_begin_258 (lv_at hl 0 rfl) ?_
                        refine lv_iconst (v := 5) hx hb dX11_begin_260 (by decide) ?_
                        refine lv_icmp_eq (tgt := 349) hx hb dX11_begin_261 (by decide) (fun c_261 => ?_) (fun c_261 => ?_)
                        · have d_261 := c_261
                          simp only [kt_lt, kt_le, kt_eq, kt_c0, kt_c1, kt_c2, kt_c3, kt_c4, kt_c8, kt_c9, kt_cm1, kt_c81, kt_c40, kt_c7, kt_c5, kt_c6, kt_c512, kt_c10, kt_c10000] at d_261
                          refine lv_iinc (v := nI (f + 1)) (lv' := [(6, .int (nI (f + 1))), (7, .int sg), (0, .ref mx), (1, .int p1)]) hx hb dX11_begin_349 hl (k := 1) rfl (nI_1 _) (by decide) rfl (fun ls hl => ?_)
                          refine lv_goto (tgt := 179) hx hb dX11_begin_352 (by decide) ?_
                          exact ih_179 ((f + 1), px, kx, gk, ga, (upd go (nI f).toNatClampNeg (-1)), (upd gr (nI f).toNatClampNeg gv)) (by show ((f + 1) ≤ 81 ∧ 81 < (f + 1) + n_179) ∧ (px = nI (kt_ct kt_iP (kt_bs fs (kt_sz ml mw)) (f + 1))) ∧ (∀ q, q < kt_ct kt_iP (kt_bs fs (kt_sz ml mw)) (f + 1) → 0 ≤ (ga q).toInt ∧ (ga q).toInt < ((f + 1) : Int) ∧ (ga q).toInt < ml.toInt * mw.toInt) ∧ (∀ j, j < (f + 1) → (upd go (nI f).toNatClampNeg (-1)) j = -1 ∨ ∃ q : Nat, q < kt_ct kt_iP (kt_bs fs (kt_sz ml mw)) (f + 1) ∧ (upd go (nI f).toNatClampNeg (-1)) j = nI q ∧ ga q = nI j) ∧ (∀ q, q < kt_ct kt_iP (kt_bs fs (kt_sz ml mw)) (f + 1) → ∀ j, j < (f + 1) → ga q = nI j → (upd go (nI f).toNatClampNeg (-1)) j = nI q) ∧ (1 ≤ kt_ct kt_iK (kt_bs fs (kt_sz ml mw)) (f + 1) → 0 ≤ kx.toInt ∧ kx.toInt < (kt_ct kt_iP (kt_bs fs (kt_sz ml mw)) (f + 1) : Int)); first
                                    | (have hkd0 : kt_kd sg = 0 := by first | (rw [c_255]; decide) | (rw [c_261]; decide) | (rw [c_268]; decide)
                                       have hiPn : ¬ kt_iP ((kt_bs fs (kt_sz ml mw)) f) = true := by rw [← hsg]; unfold kt_iP; rw [hkd0]; decide
                                       have hiKn : ¬ kt_iK ((kt_bs fs (kt_sz ml mw)) f) = true := by rw [← hsg]; unfold kt_iK; rw [hkd0]; decide
                                       rw [nI_clamp (by omega), kt_ct_no hiPn, kt_ct_no hiKn]
                                       refine ⟨by omega, hpx, fun qq hq => by have := hgar qq hq; omega, fun j hj => ?_, fun qq hq j hj hg => ?_, hkx⟩
                                       · exact if e : j = f then Or.inl (by rw [e, pk_us]) else (by rw [pk_un e]; exact hcn j (by omega))
                                       · have h9 := hgar qq hq
                                         have hjf : j ≠ f := fun e => by rw [hg, kt_nI (by omega)] at h9; omega
                                         rw [pk_un hjf]
                                         exact hck qq hq j (by omega) hg)
                                    | (have e5 : t_345 = nI (kt_ct kt_iP (kt_bs fs (kt_sz ml mw)) f + 1) := by rw [et_345, hpx]; exact nI_1 _
                                       have epx : px.toNatClampNeg = kt_ct kt_iP (kt_bs fs (kt_sz ml mw)) f := kt_clamp hpi_
                                       rw [nI_clamp (by omega), kt_ct_yes hiPy, epx, fa_upd_twice_]
                                       refine ⟨by omega, e5, fun qq hq => ?_, fun j hj => ?_, fun qq hq j hj hg => ?_, fun h => ?_⟩
                                       · exact if e : qq = kt_ct kt_iP (kt_bs fs (kt_sz ml mw)) f then (by rw [e, pk_us, kt_nI (by omega)]; omega) else (by rw [pk_un e]; have := hgar qq (by omega); omega)
                                       · exact if e : j = f then Or.inr ⟨kt_ct kt_iP (kt_bs fs (kt_sz ml mw)) f, by omega, by rw [e, pk_us]; exact hpx, by rw [e, pk_us]⟩ else (by rw [pk_un e]; rcases hcn j (by omega) with h | ⟨qq, hq, h5, h6⟩; exact Or.inl h; exact Or.inr ⟨qq, by omega, h5, by rw [pk_un (by omega)]; exact h6⟩)
                                       · by_cases e : qq = kt_ct kt_iP (kt_bs fs (kt_sz ml mw)) f
                                         · rw [e, pk_us] at hg
                                           have hff := kt_nIinj (by omega) (by omega) hg
                                           rw [← hff, pk_us, e]; exact hpx
                                         · rw [pk_un e] at hg
                                           have h9 := hgar qq (by omega)
                                           have hjf : j ≠ f := fun e2 => by rw [hg, kt_nI (by omega)] at h9; omega
                                           rw [pk_un hjf]
                                           exact hck qq (by omega) j (by omega) hg
                                       · first
                                         | (have hkq := c_328
                                            have hiKn : ¬ kt_iK ((kt_bs fs (kt_sz ml mw)) f) = true := by rw [← hsg]; unfold kt_iK; rw [hkd, ← ea_326]; simpa using hkq
                                            have := hkx (by rw [kt_ct_no hiKn] at h; exact h)
                                            omega)
                                         | omega)) H _ hP hD hS ls (lv_sub hl [0, 2, 3] rfl)
                        · have d_261 := c_261
                          simp only [kt_lt, kt_le, kt_eq, kt_c0, kt_c1, kt_c2, kt_c3, kt_c4, kt_c8, kt_c9, kt_cm1, kt_c81, kt_c40, kt_c7, kt_c5, kt_c6, kt_c512, kt_c10, kt_c10000] at d_261
                          refine lv_iload hx hb dX11_begin_264 (lv_at hl 0 rfl) ?_
                          refine lv_bipush (v := 6) hx hb dX11_begin_266 (by decide) ?_
                          refine lv_icmp_ne (tgt := 274) hx hb dX11_begin_268 (by decide) (fun c_268 => ?_) (fun c_268 => ?_)
                          · have d_268 := c_268
                            simp only [kt_lt, kt_le, kt_eq, kt_c0, kt_c1, kt_c2, kt_c3, kt_c4, kt_c8, kt_c9, kt_cm1, kt_c81, kt_c40, kt_c7, kt_c5, kt_c6, kt_c512, kt_c10, kt_c10000] at d_268
                            have hfN : f < kt_sz ml mw := by
                              rcases Nat.lt_or_ge f (kt_sz ml mw) with h | h
                              · exact h
                              · exfalso; apply c_255; rw [hsg]; unfold kt_bs; rw [if_neg (by omega)]
                            have hiPy : kt_iP (kt_bs fs (kt_sz ml mw) f) = true := by rw [← hsg]; unfold kt_iP; exact decide_eq_true (hsp.mpr ⟨c_255, c_261, c_268⟩)
                            rw [kt_ct_yes hiPy] at hPb1
                            refine lv_aload_n hx hb dX11_begin_274 rfl (lv_at hl 2 rfl) ?_
                            refine va_get (D := D) (ci := 11) (C := RX11) (T := TX11) (N := 29) hx hb hts iw_X11_begin_X11 hown hK hP 0 rfl rfl 12 (by decide) (hts (.fieldLink RX11 27 "KingTableModel" "kind" "[I") (kt_wp_X11_begin__X11_begin_r1 kt_wm5)) (fun _ h9 => h9) rfl dX11_begin_275 ?_
                            refine lv_aload_n hx hb dX11_begin_278 rfl (lv_at hl 2 rfl) ?_
                            refine va_get (D := D) (ci := 11) (C := RX11) (T := TX11) (N := 29) hx hb hts iw_X11_begin_X11 hown hK hP 0 rfl rfl 9 (by decide) (hts (.fieldLink RX11 103 "KingTableModel" "pieces" "I") (kt_wp_X11_begin__X11_begin_r1 kt_wm2)) (fun _ h9 => h9) rfl dX11_begin_279 ?_
                            refine lv_iload hx hb dX11_begin_282 (lv_at hl 0 rfl) ?_
                            refine lv_bipush (v := 7) hx hb dX11_begin_284 (by decide) ?_
                            refine kt_join (σ := Int32) 295 8 (fun u => [(mx, .inr (11, [.int ml, .int mw, .ref ms, .int mgl, .int mhd, .int mre, .int mag, .int mkt, .int mho, .int px, .int msd, .int kx, .ref mk, .ref ma, .ref mo, .ref mg, .ref mm, .ref mt, .int mdn, .int mun, .ref mn, .int mtk, .ref me, .ref mq, .int msv, .ref mwo, .ref md, .ref mf, .ref mr])), (ms, .inl (cI, 81, .inl fs)), (mk, .inl (cI, 40, .inl gk)), (ma, .inl (cI, 40, .inl ga)), (mo, .inl (cI, 81, .inl (upd go (nI f).toNatClampNeg (-1)))), (mg, .inl (cI, 81, .inl (upd gr (nI f).toNatClampNeg gv))), (mt, .inl (cB, 172241, .inl gs_))]) (fun u => [(7, .int sg), (6, .int (nI f)), (0, .ref mx), (1, .int p1)]) (fun u => [.int u, .int px, .ref mk]) (fun u => (sg = 7 → u = 2) ∧ (¬ sg = 7 → u = sg)) (D := D) (A := A) (H0 := s.heap) (fun u hI H locs hP hD hS ls hl => ?_) (fun j_295 => ?_)
                            · obtain ⟨kv, rfl⟩ : ∃ z, z = u := ⟨_, rfl⟩
                              have hP : va_P D vwCl [(mx, .inr (11, [.int ml, .int mw, .ref ms, .int mgl, .int mhd, .int mre, .int mag, .int mkt, .int mho, .int px, .int msd, .int kx, .ref mk, .ref ma, .ref mo, .ref mg, .ref mm, .ref mt, .int mdn, .int mun, .ref mn, .int mtk, .ref me, .ref mq, .int msv, .ref mwo, .ref md, .ref mf, .ref mr])), (ms, .inl (cI, 81, .inl fs)), (mk, .inl (cI, 40, .inl gk)), (ma, .inl (cI, 40, .inl ga)), (mo, .inl (cI, 81, .inl (upd go (nI f).toNatClampNeg (-1)))), (mg, .inl (cI, 81, .inl (upd gr (nI f).toNatClampNeg gv))), (mt, .inl (cB, 172241, .inl gs_))] H := hP
                              have hD : va_D A [(mx, .inr (11, [.int ml, .int mw, .ref ms, .int mgl, .int mhd, .int mre, .int mag, .int mkt, .int mho, .int px, .int msd, .int kx, .ref mk, .ref ma, .ref mo, .ref mg, .ref mm, .ref mt, .int mdn, .int mun, .ref mn, .int mtk, .ref me, .ref mq, .int msv, .ref mwo, .ref md, .ref mf, .ref mr])), (ms, .inl (cI, 81, .inl fs)), (mk, .inl (cI, 40, .inl gk)), (ma, .inl (cI, 40, .inl ga)), (mo, .inl (cI, 81, .inl (upd go (nI f).toNatClampNeg (-1)))), (mg, .inl (cI, 81, .inl (upd gr (nI f).toNatClampNeg gv))), (mt, .inl (cB, 172241, .inl gs_))] := hD
                              have hl : lv_has ls 8 [(7, .int sg), (6, .int (nI f)), (0, .ref mx), (1, .int p1)] := hl
                              have hI : (sg = 7 → kv = 2) ∧ (¬ sg = 7 → kv = sg) := hI
                              have hkv := hI
                              have hkd : kt_kd sg = kv := by
                                by_cases h7 : sg = 7
                                · rw [hkv.1 h7, h7]; decide
                                · rw [hkv.2 h7]; unfold kt_kd; rw [if_neg h7, if_pos]
                                  have q0 := c_255
                                  have q5 := c_261
                                  have q6 := c_268
                                  simp only [kt_lt, kt_le, kt_eq, kt_c0, kt_c1, kt_c2, kt_c3, kt_c4, kt_c8, kt_c9, kt_cm1, kt_c81, kt_c40, kt_c7, kt_c5, kt_c6, kt_c512, kt_c10, kt_c10000] at h7 q0 q5 q6 ⊢
                                  omega
                              have hi_4 : vp_in px 40 := by exact kt_in (by omega) (by omega)
                              refine va_iast hx hb hK hP hD hS 2 0 rfl rfl hi_4 dX11_begin_295 (fun H locs hP hD hS => ?_)
                              have hP : va_P D vwCl [(mx, .inr (11, [.int ml, .int mw, .ref ms, .int mgl, .int mhd, .int mre, .int mag, .int mkt, .int mho, .int px, .int msd, .int kx, .ref mk, .ref ma, .ref mo, .ref mg, .ref mm, .ref mt, .int mdn, .int mun, .ref mn, .int mtk, .ref me, .ref mq, .int msv, .ref mwo, .ref md, .ref mf, .ref mr])), (ms, .inl (cI, 81, .inl fs)), (mk, .inl (cI, 40, .inl (upd gk px.toNatClampNeg kv))), (ma, .inl (cI, 40, .inl ga)), (mo, .inl (cI, 81, .inl (upd go (nI f).toNatClampNeg (-1)))), (mg, .inl (cI, 81, .inl (upd gr (nI f).toNatClampNeg gv))), (mt, .inl (cB, 172241, .inl gs_))] H := hP
                              have hD : va_D A [(mx, .inr (11, [.int ml, .int mw, .ref ms, .int mgl, .int mhd, .int mre, .int mag, .int mkt, .int mho, .int px, .int msd, .int kx, .ref mk, .ref ma, .ref mo, .ref mg, .ref mm, .ref mt, .int mdn, .int mun, .ref mn, .int mtk, .ref me, .ref mq, .int msv, .ref mwo, .ref md, .ref mf, .ref mr])), (ms, .inl (cI, 81, .inl fs)), (mk, .inl (cI, 40, .inl (upd gk px.toNatClampNeg kv))), (ma, .inl (cI, 40, .inl ga)), (mo, .inl (cI, 81, .inl (upd go (nI f).toNatClampNeg (-1)))), (mg, .inl (cI, 81, .inl (upd gr (nI f).toNatClampNeg gv))), (mt, .inl (cB, 172241, .inl gs_))] := hD
                              refine lv_aload_n hx hb dX11_begin_296 rfl (lv_at hl 2 rfl) ?_
                              refine va_get (D := D) (ci := 11) (C := RX11) (T := TX11) (N := 29) hx hb hts iw_X11_begin_X11 hown hK hP 0 rfl rfl 13 (by decide) (hts (.fieldLink RX11 30 "KingTableModel" "at" "[I") (kt_wp_X11_begin__X11_begin_r1 kt_wm6)) (fun _ h9 => h9) rfl dX11_begin_297 ?_
                              refine lv_aload_n hx hb dX11_begin_300 rfl (lv_at hl 2 rfl) ?_
                              refine va_get (D := D) (ci := 11) (C := RX11) (T := TX11) (N := 29) hx hb hts iw_X11_begin_X11 hown hK hP 0 rfl rfl 9 (by decide) (hts (.fieldLink RX11 103 "KingTableModel" "pieces" "I") (kt_wp_X11_begin__X11_begin_r1 kt_wm2)) (fun _ h9 => h9) rfl dX11_begin_301 ?_
                              refine lv_iload hx hb dX11_begin_304 (lv_at hl 1 rfl) ?_
                              have hi_5 : vp_in px 40 := by exact kt_in (by omega) (by omega)
                              refine va_iast hx hb hK hP hD hS 3 0 rfl rfl hi_5 dX11_begin_306 (fun H locs hP hD hS => ?_)
                              have hP : va_P D vwCl [(mx, .inr (11, [.int ml, .int mw, .ref ms, .int mgl, .int mhd, .int mre, .int mag, .int mkt, .int mho, .int px, .int msd, .int kx, .ref mk, .ref ma, .ref mo, .ref mg, .ref mm, .ref mt, .int mdn, .int mun, .ref mn, .int mtk, .ref me, .ref mq, .int msv, .ref mwo, .ref md, .ref mf, .ref mr])), (ms, .inl (cI, 81, .inl fs)), (mk, .inl (cI, 40, .inl (upd gk px.toNatClampNeg kv))), (ma, .inl (cI, 40, .inl (upd ga px.toNatClampNeg (nI f)))), (mo, .inl (cI, 81, .inl (upd go (nI f).toNatClampNeg (-1)))), (mg, .inl (cI, 81, .inl (upd gr (nI f).toNatClampNeg gv))), (mt, .inl (cB, 172241, .inl gs_))] H := hP
                              have hD : va_D A [(mx, .inr (11, [.int ml, .int mw, .ref ms, .int mgl, .int mhd, .int mre, .int mag, .int mkt, .int mho, .int px, .int msd, .int kx, .ref mk, .ref ma, .ref mo, .ref mg, .ref mm, .ref mt, .int mdn, .int mun, .ref mn, .int mtk, .ref me, .ref mq, .int msv, .ref mwo, .ref md, .ref mf, .ref mr])), (ms, .inl (cI, 81, .inl fs)), (mk, .inl (cI, 40, .inl (upd gk px.toNatClampNeg kv))), (ma, .inl (cI, 40, .inl (upd ga px.toNatClampNeg (nI f)))), (mo, .inl (cI, 81, .inl (upd go (nI f).toNatClampNeg (-1)))), (mg, .inl (cI, 81, .inl (upd gr (nI f).toNatClampNeg gv))), (mt, .inl (cB, 172241, .inl gs_))] := hD
                              refine lv_aload_n hx hb dX11_begin_307 rfl (lv_at hl 2 rfl) ?_
                              refine va_get (D := D) (ci := 11) (C := RX11) (T := TX11) (N := 29) hx hb hts iw_X11_begin_X11 hown hK hP 0 rfl rfl 14 (by decide) (hts (.fieldLink RX11 33 "KingTableModel" "on" "[I") (kt_wp_X11_begin__X11_begin_r1 kt_wm4)) (fun _ h9 => h9) rfl dX11_begin_308 ?_
                              refine lv_iload hx hb dX11_begin_311 (lv_at hl 1 rfl) ?_
                              refine lv_aload_n hx hb dX11_begin_313 rfl (lv_at hl 2 rfl) ?_
                              refine va_get (D := D) (ci := 11) (C := RX11) (T := TX11) (N := 29) hx hb hts iw_X11_begin_X11 hown hK hP 0 rfl rfl 9 (by decide) (hts (.fieldLink RX11 103 "KingTableModel" "pieces" "I") (kt_wp_X11_begin__X11_begin_r1 kt_wm2)) (fun _ h9 => h9) rfl dX11_begin_314 ?_
                              have hi_6 : vp_in (nI f) 81 := by exact kt_in (by omega) (by omega)
                              refine va_iast hx hb hK hP hD hS 4 0 rfl rfl hi_6 dX11_begin_317 (fun H locs hP hD hS => ?_)
                              have hP : va_P D vwCl [(mx, .inr (11, [.int ml, .int mw, .ref ms, .int mgl, .int mhd, .int mre, .int mag, .int mkt, .int mho, .int px, .int msd, .int kx, .ref mk, .ref ma, .ref mo, .ref mg, .ref mm, .ref mt, .int mdn, .int mun, .ref mn, .int mtk, .ref me, .ref mq, .int msv, .ref mwo, .ref md, .ref mf, .ref mr])), (ms, .inl (cI, 81, .inl fs)), (mk, .inl (cI, 40, .inl (upd gk px.toNatClampNeg kv))), (ma, .inl (cI, 40, .inl (upd ga px.toNatClampNeg (nI f)))), (mo, .inl (cI, 81, .inl (upd (upd go (nI f).toNatClampNeg (-1)) (nI f).toNatClampNeg px))), (mg, .inl (cI, 81, .inl (upd gr (nI f).toNatClampNeg gv))), (mt, .inl (cB, 172241, .inl gs_))] H := hP
                              have hD : va_D A [(mx, .inr (11, [.int ml, .int mw, .ref ms, .int mgl, .int mhd, .int mre, .int mag, .int mkt, .int mho, .int px, .int msd, .int kx, .ref mk, .ref ma, .ref mo, .ref mg, .ref mm, .ref mt, .int mdn, .int mun, .ref mn, .int mtk, .ref me, .ref mq, .int msv, .ref mwo, .ref md, .ref mf, .ref mr])), (ms, .inl (cI, 81, .inl fs)), (mk, .inl (cI, 40, .inl (upd gk px.toNatClampNeg kv))), (ma, .inl (cI, 40, .inl (upd ga px.toNatClampNeg (nI f)))), (mo, .inl (cI, 81, .inl (upd (upd go (nI f).toNatClampNeg (-1)) (nI f).toNatClampNeg px))), (mg, .inl (cI, 81, .inl (upd gr (nI f).toNatClampNeg gv))), (mt, .inl (cB, 172241, .inl gs_))] := hD
                              refine lv_aload_n hx hb dX11_begin_318 rfl (lv_at hl 2 rfl) ?_
                              refine va_get (D := D) (ci := 11) (C := RX11) (T := TX11) (N := 29) hx hb hts iw_X11_begin_X11 hown hK hP 0 rfl rfl 12 (by decide) (hts (.fieldLink RX11 27 "KingTableModel" "kind" "[I") (kt_wp_X11_begin__X11_begin_r1 kt_wm5)) (fun _ h9 => h9) rfl dX11_begin_319 ?_
                              refine lv_aload_n hx hb dX11_begin_322 rfl (lv_at hl 2 rfl) ?_
                              refine va_get (D := D) (ci := 11) (C := RX11) (T := TX11) (N := 29) hx hb hts iw_X11_begin_X11 hown hK hP 0 rfl rfl 9 (by decide) (hts (.fieldLink RX11 103 "KingTableModel" "pieces" "I") (kt_wp_X11_begin__X11_begin_r1 kt_wm2)) (fun _ h9 => h9) rfl dX11_begin_323 ?_
                              have hi_7 : vp_in px 40 := by exact kt_in (by omega) (by omega)
                              refine va_iald hx hb hK hP 2 0 rfl rfl hi_7 dX11_begin_326 ?_
                              refine lv_topi (fun a_326 ea_326 => ?_)
                              rw [pk_us] at ea_326
                              refine lv_iconst (v := 2) hx hb dX11_begin_327 (by decide) ?_
                              refine lv_icmp_ne (tgt := 339) hx hb dX11_begin_328 (by decide) (fun c_328 => ?_) (fun c_328 => ?_)
                              · have d_328 := c_328
                                simp only [kt_lt, kt_le, kt_eq, kt_c0, kt_c1, kt_c2, kt_c3, kt_c4, kt_c8, kt_c9, kt_cm1, kt_c81, kt_c40, kt_c7, kt_c5, kt_c6, kt_c512, kt_c10, kt_c10000] at d_328
                                refine lv_aload_n hx hb dX11_begin_339 rfl (lv_at hl 2 rfl) ?_
                                refine lv_dup hx hb dX11_begin_340 rfl ?_
                                refine va_get (D := D) (ci := 11) (C := RX11) (T := TX11) (N := 29) hx hb hts iw_X11_begin_X11 hown hK hP 0 rfl rfl 9 (by decide) (hts (.fieldLink RX11 103 "KingTableModel" "pieces" "I") (kt_wp_X11_begin__X11_begin_r1 kt_wm2)) (fun _ h9 => h9) rfl dX11_begin_341 ?_
                                refine lv_iconst (v := 1) hx hb dX11_begin_344 (by decide) ?_
                                refine lv_iadd hx hb dX11_begin_345 ?_
                                refine lv_topi (fun t_345 et_345 => ?_)
                                first | have hk_345 := kt_addx et_345 (by first | omega | (simp only [kt_c0, kt_c1, kt_c2, kt_c3, kt_c4, kt_c8, kt_c9, kt_cm1, kt_c81, kt_c40, kt_c7, kt_c5, kt_c6, kt_c512, kt_c10, kt_c10000]; omega)) (by first | omega | (simp only [kt_c0, kt_c1, kt_c2, kt_c3, kt_c4, kt_c8, kt_c9, kt_cm1, kt_c81, kt_c40, kt_c7, kt_c5, kt_c6, kt_c512, kt_c10, kt_c10000]; omega)) | obtain ⟨k_345, hk_345, hm_345, hM_345⟩ := kt_addk et_345
                                try simp only [kt_c0, kt_c1, kt_c2, kt_c3, kt_c4, kt_c8, kt_c9, kt_cm1, kt_c81, kt_c40, kt_c7, kt_c5, kt_c6, kt_c512, kt_c10, kt_c10000] at hk_345
                                refine va_put (D := D) (ci := 11) (v := .int t_345) (ty := .int) (C := RX11) (T := TX11) (N := 29) hx hb hts iw_X11_begin_X11 tyX11 tyX11_ok nmX11 hown hK hP hD hS 0 rfl rfl 9 (by decide) (hts (.fieldLink RX11 103 "KingTableModel" "pieces" "I") (kt_wp_X11_begin__X11_begin_r1 kt_wm2)) (fun _ h9 => h9) rfl (by decide +kernel) rfl rfl (Nat.le_of_ble_eq_true rfl) dX11_begin_346 (fun H locs hP hD hS => ?_)
                                have hP : va_P D vwCl [(mx, .inr (11, [.int ml, .int mw, .ref ms, .int mgl, .int mhd, .int mre, .int mag, .int mkt, .int mho, .int t_345, .int msd, .int kx, .ref mk, .ref ma, .ref mo, .ref mg, .ref mm, .ref mt, .int mdn, .int mun, .ref mn, .int mtk, .ref me, .ref mq, .int msv, .ref mwo, .ref md, .ref mf, .ref mr])), (ms, .inl (cI, 81, .inl fs)), (mk, .inl (cI, 40, .inl (upd gk px.toNatClampNeg kv))), (ma, .inl (cI, 40, .inl (upd ga px.toNatClampNeg (nI f)))), (mo, .inl (cI, 81, .inl (upd (upd go (nI f).toNatClampNeg (-1)) (nI f).toNatClampNeg px))), (mg, .inl (cI, 81, .inl (upd gr (nI f).toNatClampNeg gv))), (mt, .inl (cB, 172241, .inl gs_))] H := hP
                                have hD : va_D A [(mx, .inr (11, [.int ml, .int mw, .ref ms, .int mgl, .int mhd, .int mre, .int mag, .int mkt, .int mho, .int t_345, .int msd, .int kx, .ref mk, .ref ma, .ref mo, .ref mg, .ref mm, .ref mt, .int mdn, .int mun, .ref mn, .int mtk, .ref me, .ref mq, .int msv, .ref mwo, .ref md, .ref mf, .ref mr])), (ms, .inl (cI, 81, .inl fs)), (mk, .inl (cI, 40, .inl (upd gk px.toNatClampNeg kv))), (ma, .inl (cI, 40, .inl (upd ga px.toNatClampNeg (nI f)))), (mo, .inl (cI, 81, .inl (upd (upd go (nI f).toNatClampNeg (-1)) (nI f).toNatClampNeg px))), (mg, .inl (cI, 81, .inl (upd gr (nI f).toNatClampNeg gv))), (mt, .inl (cB, 172241, .inl gs_))] := hD
                                refine lv_iinc (v := nI (f + 1)) (lv' := [(6, .int (nI (f + 1))), (7, .int sg), (0, .ref mx), (1, .int p1)]) hx hb dX11_begin_349 hl (k := 1) rfl (nI_1 _) (by decide) rfl (fun ls hl => ?_)
                                refine lv_goto (tgt := 179) hx hb dX11_begin_352 (by decide) ?_
                                exact ih_179 ((f + 1), t_345, kx, (upd gk px.toNatClampNeg kv), (upd ga px.toNatClampNeg (nI f)), (upd (upd go (nI f).toNatClampNeg (-1)) (nI f).toNatClampNeg px), (upd gr (nI f).toNatClampNeg gv)) (by show ((f + 1) ≤ 81 ∧ 81 < (f + 1) + n_179) ∧ (t_345 = nI (kt_ct kt_iP (kt_bs fs (kt_sz ml mw)) (f + 1))) ∧ (∀ q, q < kt_ct kt_iP (kt_bs fs (kt_sz ml mw)) (f + 1) → 0 ≤ ((upd ga px.toNatClampNeg (nI f)) q).toInt ∧ ((upd ga px.toNatClampNeg (nI f)) q).toInt < ((f + 1) : Int) ∧ ((upd ga px.toNatClampNeg (nI f)) q).toInt < ml.toInt * mw.toInt) ∧ (∀ j, j < (f + 1) → (upd (upd go (nI f).toNatClampNeg (-1)) (nI f).toNatClampNeg px) j = -1 ∨ ∃ q : Nat, q < kt_ct kt_iP (kt_bs fs (kt_sz ml mw)) (f + 1) ∧ (upd (upd go (nI f).toNatClampNeg (-1)) (nI f).toNatClampNeg px) j = nI q ∧ (upd ga px.toNatClampNeg (nI f)) q = nI j) ∧ (∀ q, q < kt_ct kt_iP (kt_bs fs (kt_sz ml mw)) (f + 1) → ∀ j, j < (f + 1) → (upd ga px.toNatClampNeg (nI f)) q = nI j → (upd (upd go (nI f).toNatClampNeg (-1)) (nI f).toNatClampNeg px) j = nI q) ∧ (1 ≤ kt_ct kt_iK (kt_bs fs (kt_sz ml mw)) (f + 1) → 0 ≤ kx.toInt ∧ kx.toInt < (kt_ct kt_iP (kt_bs fs (kt_sz ml mw)) (f + 1) : Int)); first
                                          | (have hkd0 : kt_kd sg = 0 := by first | (rw [c_255]; decide) | (rw [c_261]; decide) | (rw [c_268]; decide)
                                             have hiPn : ¬ kt_iP ((kt_bs fs (kt_sz ml mw)) f) = true := by rw [← hsg]; unfold kt_iP; rw [hkd0]; decide
                                             have hiKn : ¬ kt_iK ((kt_bs fs (kt_sz ml mw)) f) = true := by rw [← hsg]; unfold kt_iK; rw [hkd0]; decide
                                             rw [nI_clamp (by omega), kt_ct_no hiPn, kt_ct_no hiKn]
                                             refine ⟨by omega, hpx, fun qq hq => by have := hgar qq hq; omega, fun j hj => ?_, fun qq hq j hj hg => ?_, hkx⟩
                                             · exact if e : j = f then Or.inl (by rw [e, pk_us]) else (by rw [pk_un e]; exact hcn j (by omega))
                                             · have h9 := hgar qq hq
                                               have hjf : j ≠ f := fun e => by rw [hg, kt_nI (by omega)] at h9; omega
                                               rw [pk_un hjf]
                                               exact hck qq hq j (by omega) hg)
                                          | (have e5 : t_345 = nI (kt_ct kt_iP (kt_bs fs (kt_sz ml mw)) f + 1) := by rw [et_345, hpx]; exact nI_1 _
                                             have epx : px.toNatClampNeg = kt_ct kt_iP (kt_bs fs (kt_sz ml mw)) f := kt_clamp hpi_
                                             rw [nI_clamp (by omega), kt_ct_yes hiPy, epx, fa_upd_twice_]
                                             refine ⟨by omega, e5, fun qq hq => ?_, fun j hj => ?_, fun qq hq j hj hg => ?_, fun h => ?_⟩
                                             · exact if e : qq = kt_ct kt_iP (kt_bs fs (kt_sz ml mw)) f then (by rw [e, pk_us, kt_nI (by omega)]; omega) else (by rw [pk_un e]; have := hgar qq (by omega); omega)
                                             · exact if e : j = f then Or.inr ⟨kt_ct kt_iP (kt_bs fs (kt_sz ml mw)) f, by omega, by rw [e, pk_us]; exact hpx, by rw [e, pk_us]⟩ else (by rw [pk_un e]; rcases hcn j (by omega) with h | ⟨qq, hq, h5, h6⟩; exact Or.inl h; exact Or.inr ⟨qq, by omega, h5, by rw [pk_un (by omega)]; exact h6⟩)
                                             · by_cases e : qq = kt_ct kt_iP (kt_bs fs (kt_sz ml mw)) f
                                               · rw [e, pk_us] at hg
                                                 have hff := kt_nIinj (by omega) (by omega) hg
                                                 rw [← hff, pk_us, e]; exact hpx
                                               · rw [pk_un e] at hg
                                                 have h9 := hgar qq (by omega)
                                                 have hjf : j ≠ f := fun e2 => by rw [hg, kt_nI (by omega)] at h9; omega
                                                 rw [pk_un hjf]
                                                 exact hck qq (by omega) j (by omega) hg
                                             · first
                                               | (have hkq := c_328
                                                  have hiKn : ¬ kt_iK ((kt_bs fs (kt_sz ml mw)) f) = true := by rw [← hsg]; unfold kt_iK; rw [hkd, ← ea_326]; simpa using hkq
                                                  have := hkx (by rw [kt_ct_no hiKn] at h; exact h)
                                                  omega)
                                               | omega)) H _ hP hD hS ls (lv_sub hl [0, 2, 3] rfl)
                              · have d_328 := c_328
                                simp only [kt_lt, kt_le, kt_eq, kt_c0, kt_c1, kt_c2, kt_c3, kt_c4, kt_c8, kt_c9, kt_cm1, kt_c81, kt_c40, kt_c7, kt_c5, kt_c6, kt_c512, kt_c10, kt_c10000] at d_328
                                refine lv_aload_n hx hb dX11_begin_331 rfl (lv_at hl 2 rfl) ?_
                                refine lv_aload_n hx hb dX11_begin_332 rfl (lv_at hl 2 rfl) ?_
                                refine va_get (D := D) (ci := 11) (C := RX11) (T := TX11) (N := 29) hx hb hts iw_X11_begin_X11 hown hK hP 0 rfl rfl 9 (by decide) (hts (.fieldLink RX11 103 "KingTableModel" "pieces" "I") (kt_wp_X11_begin__X11_begin_r1 kt_wm2)) (fun _ h9 => h9) rfl dX11_begin_333 ?_
                                refine va_put (D := D) (ci := 11) (v := .int px) (ty := .int) (C := RX11) (T := TX11) (N := 29) hx hb hts iw_X11_begin_X11 tyX11 tyX11_ok nmX11 hown hK hP hD hS 0 rfl rfl 11 (by decide) (hts (.fieldLink RX11 135 "KingTableModel" "king" "I") (kt_wp_X11_begin__X11_begin_r1 kt_wm7)) (fun _ h9 => h9) rfl (by decide +kernel) rfl rfl (Nat.le_of_ble_eq_true rfl) dX11_begin_336 (fun H locs hP hD hS => ?_)
                                have hP : va_P D vwCl [(mx, .inr (11, [.int ml, .int mw, .ref ms, .int mgl, .int mhd, .int mre, .int mag, .int mkt, .int mho, .int px, .int msd, .int px, .ref mk, .ref ma, .ref mo, .ref mg, .ref mm, .ref mt, .int mdn, .int mun, .ref mn, .int mtk, .ref me, .ref mq, .int msv, .ref mwo, .ref md, .ref mf, .ref mr])), (ms, .inl (cI, 81, .inl fs)), (mk, .inl (cI, 40, .inl (upd gk px.toNatClampNeg kv))), (ma, .inl (cI, 40, .inl (upd ga px.toNatClampNeg (nI f)))), (mo, .inl (cI, 81, .inl (upd (upd go (nI f).toNatClampNeg (-1)) (nI f).toNatClampNeg px))), (mg, .inl (cI, 81, .inl (upd gr (nI f).toNatClampNeg gv))), (mt, .inl (cB, 172241, .inl gs_))] H := hP
                                have hD : va_D A [(mx, .inr (11, [.int ml, .int mw, .ref ms, .int mgl, .int mhd, .int mre, .int mag, .int mkt, .int mho, .int px, .int msd, .int px, .ref mk, .ref ma, .ref mo, .ref mg, .ref mm, .ref mt, .int mdn, .int mun, .ref mn, .int mtk, .ref me, .ref mq, .int msv, .ref mwo, .ref md, .ref mf, .ref mr])), (ms, .inl (cI, 81, .inl fs)), (mk, .inl (cI, 40, .inl (upd gk px.toNatClampNeg kv))), (ma, .inl (cI, 40, .inl (upd ga px.toNatClampNeg (nI f)))), (mo, .inl (cI, 81, .inl (upd (upd go (nI f).toNatClampNeg (-1)) (nI f).toNatClampNeg px))), (mg, .inl (cI, 81, .inl (upd gr (nI f).toNatClampNeg gv))), (mt, .inl (cB, 172241, .inl gs_))] := hD
                                refine lv_aload_n hx hb dX11_begin_339 rfl (lv_at hl 2 rfl) ?_
                                refine lv_dup hx hb dX11_begin_340 rfl ?_
                                refine va_get (D := D) (ci := 11) (C := RX11) (T := TX11) (N := 29) hx hb hts iw_X11_begin_X11 hown hK hP 0 rfl rfl 9 (by decide) (hts (.fieldLink RX11 103 "KingTableModel" "pieces" "I") (kt_wp_X11_begin__X11_begin_r1 kt_wm2)) (fun _ h9 => h9) rfl dX11_begin_341 ?_
                                refine lv_iconst (v := 1) hx hb dX11_begin_344 (by decide) ?_
                                refine lv_iadd hx hb dX11_begin_345 ?_
                                refine lv_topi (fun t_345 et_345 => ?_)
                                first | have hk_345 := kt_addx et_345 (by first | omega | (simp only [kt_c0, kt_c1, kt_c2, kt_c3, kt_c4, kt_c8, kt_c9, kt_cm1, kt_c81, kt_c40, kt_c7, kt_c5, kt_c6, kt_c512, kt_c10, kt_c10000]; omega)) (by first | omega | (simp only [kt_c0, kt_c1, kt_c2, kt_c3, kt_c4, kt_c8, kt_c9, kt_cm1, kt_c81, kt_c40, kt_c7, kt_c5, kt_c6, kt_c512, kt_c10, kt_c10000]; omega)) | obtain ⟨k_345, hk_345, hm_345, hM_345⟩ := kt_addk et_345
                                try simp only [kt_c0, kt_c1, kt_c2, kt_c3, kt_c4, kt_c8, kt_c9, kt_cm1, kt_c81, kt_c40, kt_c7, kt_c5, kt_c6, kt_c512, kt_c10, kt_c10000] at hk_345
                                refine va_put (D := D) (ci := 11) (v := .int t_345) (ty := .int) (C := RX11) (T := TX11) (N := 29) hx hb hts iw_X11_begin_X11 tyX11 tyX11_ok nmX11 hown hK hP hD hS 0 rfl rfl 9 (by decide) (hts (.fieldLink RX11 103 "KingTableModel" "pieces" "I") (kt_wp_X11_begin__X11_begin_r1 kt_wm2)) (fun _ h9 => h9) rfl (by decide +kernel) rfl rfl (Nat.le_of_ble_eq_true rfl) dX11_begin_346 (fun H locs hP hD hS => ?_)
                                have hP : va_P D vwCl [(mx, .inr (11, [.int ml, .int mw, .ref ms, .int mgl, .int mhd, .int mre, .int mag, .int mkt, .int mho, .int t_345, .int msd, .int px, .ref mk, .ref ma, .ref mo, .ref mg, .ref mm, .ref mt, .int mdn, .int mun, .ref mn, .int mtk, .ref me, .ref mq, .int msv, .ref mwo, .ref md, .ref mf, .ref mr])), (ms, .inl (cI, 81, .inl fs)), (mk, .inl (cI, 40, .inl (upd gk px.toNatClampNeg kv))), (ma, .inl (cI, 40, .inl (upd ga px.toNatClampNeg (nI f)))), (mo, .inl (cI, 81, .inl (upd (upd go (nI f).toNatClampNeg (-1)) (nI f).toNatClampNeg px))), (mg, .inl (cI, 81, .inl (upd gr (nI f).toNatClampNeg gv))), (mt, .inl (cB, 172241, .inl gs_))] H := hP
                                have hD : va_D A [(mx, .inr (11, [.int ml, .int mw, .ref ms, .int mgl, .int mhd, .int mre, .int mag, .int mkt, .int mho, .int t_345, .int msd, .int px, .ref mk, .ref ma, .ref mo, .ref mg, .ref mm, .ref mt, .int mdn, .int mun, .ref mn, .int mtk, .ref me, .ref mq, .int msv, .ref mwo, .ref md, .ref mf, .ref mr])), (ms, .inl (cI, 81, .inl fs)), (mk, .inl (cI, 40, .inl (upd gk px.toNatClampNeg kv))), (ma, .inl (cI, 40, .inl (upd ga px.toNatClampNeg (nI f)))), (mo, .inl (cI, 81, .inl (upd (upd go (nI f).toNatClampNeg (-1)) (nI f).toNatClampNeg px))), (mg, .inl (cI, 81, .inl (upd gr (nI f).toNatClampNeg gv))), (mt, .inl (cB, 172241, .inl gs_))] := hD
                                refine lv_iinc (v := nI (f + 1)) (lv' := [(6, .int (nI (f + 1))), (7, .int sg), (0, .ref mx), (1, .int p1)]) hx hb dX11_begin_349 hl (k := 1) rfl (nI_1 _) (by decide) rfl (fun ls hl => ?_)
                                refine lv_goto (tgt := 179) hx hb dX11_begin_352 (by decide) ?_
                                exact ih_179 ((f + 1), t_345, px, (upd gk px.toNatClampNeg kv), (upd ga px.toNatClampNeg (nI f)), (upd (upd go (nI f).toNatClampNeg (-1)) (nI f).toNatClampNeg px), (upd gr (nI f).toNatClampNeg gv)) (by show ((f + 1) ≤ 81 ∧ 81 < (f + 1) + n_179) ∧ (t_345 = nI (kt_ct kt_iP (kt_bs fs (kt_sz ml mw)) (f + 1))) ∧ (∀ q, q < kt_ct kt_iP (kt_bs fs (kt_sz ml mw)) (f + 1) → 0 ≤ ((upd ga px.toNatClampNeg (nI f)) q).toInt ∧ ((upd ga px.toNatClampNeg (nI f)) q).toInt < ((f + 1) : Int) ∧ ((upd ga px.toNatClampNeg (nI f)) q).toInt < ml.toInt * mw.toInt) ∧ (∀ j, j < (f + 1) → (upd (upd go (nI f).toNatClampNeg (-1)) (nI f).toNatClampNeg px) j = -1 ∨ ∃ q : Nat, q < kt_ct kt_iP (kt_bs fs (kt_sz ml mw)) (f + 1) ∧ (upd (upd go (nI f).toNatClampNeg (-1)) (nI f).toNatClampNeg px) j = nI q ∧ (upd ga px.toNatClampNeg (nI f)) q = nI j) ∧ (∀ q, q < kt_ct kt_iP (kt_bs fs (kt_sz ml mw)) (f + 1) → ∀ j, j < (f + 1) → (upd ga px.toNatClampNeg (nI f)) q = nI j → (upd (upd go (nI f).toNatClampNeg (-1)) (nI f).toNatClampNeg px) j = nI q) ∧ (1 ≤ kt_ct kt_iK (kt_bs fs (kt_sz ml mw)) (f + 1) → 0 ≤ px.toInt ∧ px.toInt < (kt_ct kt_iP (kt_bs fs (kt_sz ml mw)) (f + 1) : Int)); first
                                          | (have hkd0 : kt_kd sg = 0 := by first | (rw [c_255]; decide) | (rw [c_261]; decide) | (rw [c_268]; decide)
                                             have hiPn : ¬ kt_iP ((kt_bs fs (kt_sz ml mw)) f) = true := by rw [← hsg]; unfold kt_iP; rw [hkd0]; decide
                                             have hiKn : ¬ kt_iK ((kt_bs fs (kt_sz ml mw)) f) = true := by rw [← hsg]; unfold kt_iK; rw [hkd0]; decide
                                             rw [nI_clamp (by omega), kt_ct_no hiPn, kt_ct_no hiKn]
                                             refine ⟨by omega, hpx, fun qq hq => by have := hgar qq hq; omega, fun j hj => ?_, fun qq hq j hj hg => ?_, hkx⟩
                                             · exact if e : j = f then Or.inl (by rw [e, pk_us]) else (by rw [pk_un e]; exact hcn j (by omega))
                                             · have h9 := hgar qq hq
                                               have hjf : j ≠ f := fun e => by rw [hg, kt_nI (by omega)] at h9; omega
                                               rw [pk_un hjf]
                                               exact hck qq hq j (by omega) hg)
                                          | (have e5 : t_345 = nI (kt_ct kt_iP (kt_bs fs (kt_sz ml mw)) f + 1) := by rw [et_345, hpx]; exact nI_1 _
                                             have epx : px.toNatClampNeg = kt_ct kt_iP (kt_bs fs (kt_sz ml mw)) f := kt_clamp hpi_
                                             rw [nI_clamp (by omega), kt_ct_yes hiPy, epx, fa_upd_twice_]
                                             refine ⟨by omega, e5, fun qq hq => ?_, fun j hj => ?_, fun qq hq j hj hg => ?_, fun h => ?_⟩
                                             · exact if e : qq = kt_ct kt_iP (kt_bs fs (kt_sz ml mw)) f then (by rw [e, pk_us, kt_nI (by omega)]; omega) else (by rw [pk_un e]; have := hgar qq (by omega); omega)
                                             · exact if e : j = f then Or.inr ⟨kt_ct kt_iP (kt_bs fs (kt_sz ml mw)) f, by omega, by rw [e, pk_us]; exact hpx, by rw [e, pk_us]⟩ else (by rw [pk_un e]; rcases hcn j (by omega) with h | ⟨qq, hq, h5, h6⟩; exact Or.inl h; exact Or.inr ⟨qq, by omega, h5, by rw [pk_un (by omega)]; exact h6⟩)
                                             · by_cases e : qq = kt_ct kt_iP (kt_bs fs (kt_sz ml mw)) f
                                               · rw [e, pk_us] at hg
                                                 have hff := kt_nIinj (by omega) (by omega) hg
                                                 rw [← hff, pk_us, e]; exact hpx
                                               · rw [pk_un e] at hg
                                                 have h9 := hgar qq (by omega)
                                                 have hjf : j ≠ f := fun e2 => by rw [hg, kt_nI (by omega)] at h9; omega
                                                 rw [pk_un hjf]
                                                 exact hck qq (by omega) j (by omega) hg
                                             · first
                                               | (have hkq := c_328
                                                  have hiKn : ¬ kt_iK ((kt_bs fs (kt_sz ml mw)) f) = true := by rw [← hsg]; unfold kt_iK; rw [hkd, ← ea_326]; simpa using hkq
                                                  have := hkx (by rw [kt_ct_no hiKn] at h; exact h)
                                                  omega)
                                               | omega)) H _ hP hD hS ls (lv_sub hl [0, 2, 3] rfl)
                            refine lv_icmp_ne (tgt := 293) hx hb dX11_begin_286 (by decide) (fun c_286 => ?_) (fun c_286 => ?_)
                            · have d_286 := c_286
                              simp only [kt_lt, kt_le, kt_eq, kt_c0, kt_c1, kt_c2, kt_c3, kt_c4, kt_c8, kt_c9, kt_cm1, kt_c81, kt_c40, kt_c7, kt_c5, kt_c6, kt_c512, kt_c10, kt_c10000] at d_286
                              refine lv_iload hx hb dX11_begin_293 (lv_at hl 0 rfl) ?_
                              exact j_295 sg (by show (sg = 7 → sg = 2) ∧ (¬ sg = 7 → sg = sg); first | exact ⟨fun _ => rfl, fun h => absurd c_286 h⟩ | exact ⟨fun h => absurd h c_286, fun _ => rfl⟩) H _ hP hD hS ls (lv_sub hl [0, 1, 2, 3] rfl)
                            · have d_286 := c_286
                              simp only [kt_lt, kt_le, kt_eq, kt_c0, kt_c1, kt_c2, kt_c3, kt_c4, kt_c8, kt_c9, kt_cm1, kt_c81, kt_c40, kt_c7, kt_c5, kt_c6, kt_c512, kt_c10, kt_c10000] at d_286
                              refine lv_iconst (v := 2) hx hb dX11_begin_289 (by decide) ?_
                              refine lv_goto (tgt := 295) hx hb dX11_begin_290 (by decide) ?_
                              exact j_295 (2 : Int32) (by show (sg = 7 → (2 : Int32) = 2) ∧ (¬ sg = 7 → (2 : Int32) = sg); first | exact ⟨fun _ => rfl, fun h => absurd c_286 h⟩ | exact ⟨fun h => absurd h c_286, fun _ => rfl⟩) H _ hP hD hS ls (lv_sub hl [0, 1, 2, 3] rfl)
                          · have d_268 := c_268
                            simp only [kt_lt, kt_le, kt_eq, kt_c0, kt_c1, kt_c2, kt_c3, kt_c4, kt_c8, kt_c9, kt_cm1, kt_c81, kt_c40, kt_c7, kt_c5, kt_c6, kt_c512, kt_c10, kt_c10000] at d_268
                            refine lv_goto (tgt := 349) hx hb dX11_begin_271 (by decide) ?_
                            refine lv_iinc (v := nI (f + 1)) (lv' := [(6, .int (nI (f + 1))), (7, .int sg), (0, .ref mx), (1, .int p1)]) hx hb dX11_begin_349 hl (k := 1) rfl (nI_1 _) (by decide) rfl (fun ls hl => ?_)
                            refine lv_goto (tgt := 179) hx hb dX11_begin_352 (by decide) ?_
                            exact ih_179 ((f + 1), px, kx, gk, ga, (upd go (nI f).toNatClampNeg (-1)), (upd gr (nI f).toNatClampNeg gv)) (by show ((f + 1) ≤ 81 ∧ 81 < (f + 1) + n_179) ∧ (px = nI (kt_ct kt_iP (kt_bs fs (kt_sz ml mw)) (f + 1))) ∧ (∀ q, q < kt_ct kt_iP (kt_bs fs (kt_sz ml mw)) (f + 1) → 0 ≤ (ga q).toInt ∧ (ga q).toInt < ((f + 1) : Int) ∧ (ga q).toInt < ml.toInt * mw.toInt) ∧ (∀ j, j < (f + 1) → (upd go (nI f).toNatClampNeg (-1)) j = -1 ∨ ∃ q : Nat, q < kt_ct kt_iP (kt_bs fs (kt_sz ml mw)) (f + 1) ∧ (upd go (nI f).toNatClampNeg (-1)) j = nI q ∧ ga q = nI j) ∧ (∀ q, q < kt_ct kt_iP (kt_bs fs (kt_sz ml mw)) (f + 1) → ∀ j, j < (f + 1) → ga q = nI j → (upd go (nI f).toNatClampNeg (-1)) j = nI q) ∧ (1 ≤ kt_ct kt_iK (kt_bs fs (kt_sz ml mw)) (f + 1) → 0 ≤ kx.toInt ∧ kx.toInt < (kt_ct kt_iP (kt_bs fs (kt_sz ml mw)) (f + 1) : Int)); first
                                      | (have hkd0 : kt_kd sg = 0 := by first | (rw [c_255]; decide) | (rw [c_261]; decide) | (rw [c_268]; decide)
                                         have hiPn : ¬ kt_iP ((kt_bs fs (kt_sz ml mw)) f) = true := by rw [← hsg]; unfold kt_iP; rw [hkd0]; decide
                                         have hiKn : ¬ kt_iK ((kt_bs fs (kt_sz ml mw)) f) = true := by rw [← hsg]; unfold kt_iK; rw [hkd0]; decide
                                         rw [nI_clamp (by omega), kt_ct_no hiPn, kt_ct_no hiKn]
                                         refine ⟨by omega, hpx, fun qq hq => by have := hgar qq hq; omega, fun j hj => ?_, fun qq hq j hj hg => ?_, hkx⟩
                                         · exact if e : j = f then Or.inl (by rw [e, pk_us]) else (by rw [pk_un e]; exact hcn j (by omega))
                                         · have h9 := hgar qq hq
                                           have hjf : j ≠ f := fun e => by rw [hg, kt_nI (by omega)] at h9; omega
                                           rw [pk_un hjf]
                                           exact hck qq hq j (by omega) hg)
                                      | (have e5 : t_345 = nI (kt_ct kt_iP (kt_bs fs (kt_sz ml mw)) f + 1) := by rw [et_345, hpx]; exact nI_1 _
                                         have epx : px.toNatClampNeg = kt_ct kt_iP (kt_bs fs (kt_sz ml mw)) f := kt_clamp hpi_
                                         rw [nI_clamp (by omega), kt_ct_yes hiPy, epx, fa_upd_twice_]
                                         refine ⟨by omega, e5, fun qq hq => ?_, fun j hj => ?_, fun qq hq j hj hg => ?_, fun h => ?_⟩
                                         · exact if e : qq = kt_ct kt_iP (kt_bs fs (kt_sz ml mw)) f then (by rw [e, pk_us, kt_nI (by omega)]; omega) else (by rw [pk_un e]; have := hgar qq (by omega); omega)
                                         · exact if e : j = f then Or.inr ⟨kt_ct kt_iP (kt_bs fs (kt_sz ml mw)) f, by omega, by rw [e, pk_us]; exact hpx, by rw [e, pk_us]⟩ else (by rw [pk_un e]; rcases hcn j (by omega) with h | ⟨qq, hq, h5, h6⟩; exact Or.inl h; exact Or.inr ⟨qq, by omega, h5, by rw [pk_un (by omega)]; exact h6⟩)
                                         · by_cases e : qq = kt_ct kt_iP (kt_bs fs (kt_sz ml mw)) f
                                           · rw [e, pk_us] at hg
                                             have hff := kt_nIinj (by omega) (by omega) hg
                                             rw [← hff, pk_us, e]; exact hpx
                                           · rw [pk_un e] at hg
                                             have h9 := hgar qq (by omega)
                                             have hjf : j ≠ f := fun e2 => by rw [hg, kt_nI (by omega)] at h9; omega
                                             rw [pk_un hjf]
                                             exact hck qq (by omega) j (by omega) hg
                                         · first
                                           | (have hkq := c_328
                                              have hiKn : ¬ kt_iK ((kt_bs fs (kt_sz ml mw)) f) = true := by rw [← hsg]; unfold kt_iK; rw [hkd, ← ea_326]; simpa using hkq
                                              have := hkx (by rw [kt_ct_no hiKn] at h; exact h)
                                              omega)
                                           | omega)) H _ hP hD hS ls (lv_sub hl [0, 2, 3] rfl)
                    refine lv_icmp_eq (tgt := 227) hx hb dX11_begin_217 (by decide) (fun c_217 => ?_) (fun c_217 => ?_)
                    · have d_217 := c_217
                      simp only [kt_lt, kt_le, kt_eq, kt_c0, kt_c1, kt_c2, kt_c3, kt_c4, kt_c8, kt_c9, kt_cm1, kt_c81, kt_c40, kt_c7, kt_c5, kt_c6, kt_c512, kt_c10, kt_c10000] at d_217
                      refine lv_iconst (v := 5) hx hb dX11_begin_227 (by decide) ?_
                      refine lv_goto (tgt := 244) hx hb dX11_begin_228 (by decide) ?_
                      exact j_244 (5 : Int32) (by trivial) H _ hP hD hS ls (lv_sub hl [0, 1, 2, 3] rfl)
                    · have d_217 := c_217
                      simp only [kt_lt, kt_le, kt_eq, kt_c0, kt_c1, kt_c2, kt_c3, kt_c4, kt_c8, kt_c9, kt_cm1, kt_c81, kt_c40, kt_c7, kt_c5, kt_c6, kt_c512, kt_c10, kt_c10000] at d_217
                      refine lv_iload hx hb dX11_begin_220 (lv_at hl 0 rfl) ?_
                      refine lv_bipush (v := 7) hx hb dX11_begin_222 (by decide) ?_
                      refine lv_icmp_ne (tgt := 231) hx hb dX11_begin_224 (by decide) (fun c_224 => ?_) (fun c_224 => ?_)
                      · have d_224 := c_224
                        simp only [kt_lt, kt_le, kt_eq, kt_c0, kt_c1, kt_c2, kt_c3, kt_c4, kt_c8, kt_c9, kt_cm1, kt_c81, kt_c40, kt_c7, kt_c5, kt_c6, kt_c512, kt_c10, kt_c10000] at d_224
                        refine lv_iload hx hb dX11_begin_231 (lv_at hl 0 rfl) ?_
                        refine lv_bipush (v := 6) hx hb dX11_begin_233 (by decide) ?_
                        refine lv_icmp_ne (tgt := 243) hx hb dX11_begin_235 (by decide) (fun c_235 => ?_) (fun c_235 => ?_)
                        · have d_235 := c_235
                          simp only [kt_lt, kt_le, kt_eq, kt_c0, kt_c1, kt_c2, kt_c3, kt_c4, kt_c8, kt_c9, kt_cm1, kt_c81, kt_c40, kt_c7, kt_c5, kt_c6, kt_c512, kt_c10, kt_c10000] at d_235
                          refine lv_iconst (v := 0) hx hb dX11_begin_243 (by decide) ?_
                          exact j_244 (0 : Int32) (by trivial) H _ hP hD hS ls (lv_sub hl [0, 1, 2, 3] rfl)
                        · have d_235 := c_235
                          simp only [kt_lt, kt_le, kt_eq, kt_c0, kt_c1, kt_c2, kt_c3, kt_c4, kt_c8, kt_c9, kt_cm1, kt_c81, kt_c40, kt_c7, kt_c5, kt_c6, kt_c512, kt_c10, kt_c10000] at d_235
                          refine lv_bipush (v := 6) hx hb dX11_begin_238 (by decide) ?_
                          refine lv_goto (tgt := 244) hx hb dX11_begin_240 (by decide) ?_
                          exact j_244 (6 : Int32) (by trivial) H _ hP hD hS ls (lv_sub hl [0, 1, 2, 3] rfl)
                      · have d_224 := c_224
                        simp only [kt_lt, kt_le, kt_eq, kt_c0, kt_c1, kt_c2, kt_c3, kt_c4, kt_c8, kt_c9, kt_cm1, kt_c81, kt_c40, kt_c7, kt_c5, kt_c6, kt_c512, kt_c10, kt_c10000] at d_224
                        refine lv_iconst (v := 5) hx hb dX11_begin_227 (by decide) ?_
                        refine lv_goto (tgt := 244) hx hb dX11_begin_228 (by decide) ?_
                        exact j_244 (5 : Int32) (by trivial) H _ hP hD hS ls (lv_sub hl [0, 1, 2, 3] rfl)
                  refine lv_icmp_ge (tgt := 205) hx hb dX11_begin_192 (by decide) (fun c_192 => ?_) (fun c_192 => ?_)
                  · have d_192 := c_192
                    simp only [kt_lt, kt_le, kt_eq, kt_c0, kt_c1, kt_c2, kt_c3, kt_c4, kt_c8, kt_c9, kt_cm1, kt_c81, kt_c40, kt_c7, kt_c5, kt_c6, kt_c512, kt_c10, kt_c10000] at d_192
                    refine lv_iconst (v := 0) hx hb dX11_begin_205 (by decide) ?_
                    exact j_206 (0 : Int32) (by show (0 : Int32) = kt_bs fs (kt_sz ml mw) f ∧ 0 ≤ (0 : Int32).toInt ∧ (0 : Int32).toInt ≤ 7; first | exact ⟨by unfold kt_bs; rw [if_pos (by omega), ea_201, nI_clamp (by omega)], by have := hfs f (by omega); rw [ea_201, nI_clamp (by omega)]; exact this⟩ | exact ⟨by unfold kt_bs; rw [if_neg (by omega)], by decide⟩) H _ hP hD hS ls (lv_sub hl [0, 1, 2] rfl)
                  · have d_192 := c_192
                    simp only [kt_lt, kt_le, kt_eq, kt_c0, kt_c1, kt_c2, kt_c3, kt_c4, kt_c8, kt_c9, kt_cm1, kt_c81, kt_c40, kt_c7, kt_c5, kt_c6, kt_c512, kt_c10, kt_c10000] at d_192
                    refine lv_aload_n hx hb dX11_begin_195 rfl (lv_at hl 1 rfl) ?_
                    refine va_get (D := D) (ci := 11) (C := RX11) (T := TX11) (N := 29) hx hb hts iw_X11_begin_X11 hown hK hP 0 rfl rfl 2 (by decide) (hts (.fieldLink RX11 16 "KingTableModel" "signs" "[I") (kt_wp_X11_begin__X11_begin_r1 kt_wm1)) (fun _ h9 => h9) rfl dX11_begin_196 ?_
                    refine lv_iload hx hb dX11_begin_199 (lv_at hl 0 rfl) ?_
                    have hi_8 : vp_in (nI f) 81 := by exact kt_in (by omega) (by omega)
                    refine va_iald hx hb hK hP 1 0 rfl rfl hi_8 dX11_begin_201 ?_
                    refine lv_topi (fun a_201 ea_201 => ?_)
                    refine lv_goto (tgt := 206) hx hb dX11_begin_202 (by decide) ?_
                    exact j_206 a_201 (by show a_201 = kt_bs fs (kt_sz ml mw) f ∧ 0 ≤ a_201.toInt ∧ a_201.toInt ≤ 7; first | exact ⟨by unfold kt_bs; rw [if_pos (by omega), ea_201, nI_clamp (by omega)], by have := hfs f (by omega); rw [ea_201, nI_clamp (by omega)]; exact this⟩ | exact ⟨by unfold kt_bs; rw [if_neg (by omega)], by decide⟩) H _ hP hD hS ls (lv_sub hl [0, 1, 2] rfl)
              · have d_166 := c_166
                simp only [kt_lt, kt_le, kt_eq, kt_c0, kt_c1, kt_c2, kt_c3, kt_c4, kt_c8, kt_c9, kt_cm1, kt_c81, kt_c40, kt_c7, kt_c5, kt_c6, kt_c512, kt_c10, kt_c10000] at d_166
                refine lv_iconst (v := (-1)) hx hb dX11_begin_169 (by decide) ?_
                exact kt_ri (mho, mpc, msd, mki, mdn, mun, mtk, msv, fk, fa, fo, fr, gs_) hx hb hr hlk hS dX11_begin_170 hP hD (by show ((-1 : Int32).toInt = -1 ∧ ¬ (mho.toInt = 0 ∧ (p1.toInt = 0 ∨ p1.toInt = 1) ∧ kt_ok fs (kt_sz ml mw)) ∧ mho = mho ∧ mpc = mpc ∧ msd = msd ∧ mki = mki ∧ mdn = mdn ∧ mun = mun ∧ mtk = mtk ∧ msv = msv ∧ fk = fk ∧ fa = fa ∧ fo = fo ∧ fr = fr ∧ gs_ = gs_) ∨ ((mho.toInt = 0 ∧ (p1.toInt = 0 ∨ p1.toInt = 1) ∧ kt_ok fs (kt_sz ml mw)) ∧ (-1 : Int32) = nI (kt_ct kt_iP fs (kt_sz ml mw)) ∧ (1 ≤ mho.toInt ∧ mho.toInt ≤ 3) ∧ (mdn = 0 ∧ mun = 0 ∧ msv = 0 ∧ mpc = (-1 : Int32)) ∧ kt_PI ml mw mpc msd mki mdn mun mkt mhd fr fk fa fo mv gs_ (kt_ct kt_iP fs (kt_sz ml mw))); first
                     | exact Or.inl ⟨by decide, fun h => by omega, rfl, rfl, rfl, rfl, rfl, rfl, rfl, rfl, rfl, rfl, rfl, rfl, rfl⟩
                     | exact Or.inl ⟨by decide, fun h => (hw_10.f c_13) (by omega), rfl, rfl, rfl, rfl, rfl, rfl, rfl, rfl, rfl, rfl, rfl, rfl, rfl⟩
                     | exact Or.inl ⟨by decide, fun h => by have h9 := h.2.2; unfold kt_ok at h9; omega, rfl, rfl, rfl, rfl, rfl, rfl, rfl, rfl, rfl, rfl, rfl, rfl, rfl⟩
                     | exact Or.inr ⟨⟨by omega, by omega, hok⟩, hpx, by first | decide | omega, ⟨rfl, rfl, rfl, rfl⟩, hpin⟩)
      · have d_37 := c_37
        simp only [kt_lt, kt_le, kt_eq, kt_c0, kt_c1, kt_c2, kt_c3, kt_c4, kt_c8, kt_c9, kt_cm1, kt_c81, kt_c40, kt_c7, kt_c5, kt_c6, kt_c512, kt_c10, kt_c10000] at d_37
        refine lv_aload_n hx hb dX11_begin_40 rfl (lv_at hl 5 rfl) ?_
        refine va_get (D := D) (ci := 11) (C := RX11) (T := TX11) (N := 29) hx hb hts iw_X11_begin_X11 hown hK hP 0 rfl rfl 2 (by decide) (hts (.fieldLink RX11 16 "KingTableModel" "signs" "[I") (kt_wp_X11_begin__X11_begin_r1 kt_wm1)) (fun _ h9 => h9) rfl dX11_begin_41 ?_
        refine lv_iload hx hb dX11_begin_44 (lv_at hl 0 rfl) ?_
        have hi_9 : vp_in (nI k) 81 := by exact kt_in (by omega) (by omega)
        refine va_iald hx hb hK hP 1 0 rfl rfl hi_9 dX11_begin_46 ?_
        refine lv_topi (fun a_46 ea_46 => ?_)
        rw [nI_clamp (by omega)] at ea_46
        have hs46 : 0 ≤ a_46.toInt ∧ a_46.toInt ≤ 7 := by rw [ea_46]; exact hfs k (by omega)
        refine lv_istore (lv' := [(7, .int a_46), (6, .int (nI k)), (5, .int c4), (4, .int c3), (3, .int c2), (2, .int c1), (0, .ref mx), (1, .int p1)]) hx hb dX11_begin_47 hl (by decide) rfl (fun ls hl => ?_)
        refine lv_iload_n hx hb dX11_begin_49 rfl (lv_at hl 5 rfl) ?_
        refine lv_iload hx hb dX11_begin_50 (lv_at hl 0 rfl) ?_
        refine lv_iconst (v := 2) hx hb dX11_begin_52 (by decide) ?_
        refine kt_join (σ := Int32) 68 8 (fun u => [(mx, .inr (11, [.int ml, .int mw, .ref ms, .int mgl, .int mhd, .int mre, .int mag, .int mkt, .int mho, .int mpc, .int msd, .int mki, .ref mk, .ref ma, .ref mo, .ref mg, .ref mm, .ref mt, .int mdn, .int mun, .ref mn, .int mtk, .ref me, .ref mq, .int msv, .ref mwo, .ref md, .ref mf, .ref mr])), (ms, .inl (cI, 81, .inl fs)), (mk, .inl (cI, 40, .inl fk)), (ma, .inl (cI, 40, .inl fa)), (mo, .inl (cI, 81, .inl fo)), (mg, .inl (cI, 81, .inl fr)), (mt, .inl (cB, 172241, .inl gs_))]) (fun u => [(7, .int a_46), (6, .int (nI k)), (5, .int c4), (4, .int c3), (3, .int c2), (2, .int c1), (0, .ref mx), (1, .int p1)]) (fun u => [.int u, .int c1]) (fun u => u = if kt_iK (fs k) = true then 1 else 0) (D := D) (A := A) (H0 := s.heap) (fun u hI H locs hP hD hS ls hl => ?_) (fun j_68 => ?_)
        · obtain ⟨v1, rfl⟩ : ∃ z, z = u := ⟨_, rfl⟩
          have hP : va_P D vwCl [(mx, .inr (11, [.int ml, .int mw, .ref ms, .int mgl, .int mhd, .int mre, .int mag, .int mkt, .int mho, .int mpc, .int msd, .int mki, .ref mk, .ref ma, .ref mo, .ref mg, .ref mm, .ref mt, .int mdn, .int mun, .ref mn, .int mtk, .ref me, .ref mq, .int msv, .ref mwo, .ref md, .ref mf, .ref mr])), (ms, .inl (cI, 81, .inl fs)), (mk, .inl (cI, 40, .inl fk)), (ma, .inl (cI, 40, .inl fa)), (mo, .inl (cI, 81, .inl fo)), (mg, .inl (cI, 81, .inl fr)), (mt, .inl (cB, 172241, .inl gs_))] H := hP
          have hD : va_D A [(mx, .inr (11, [.int ml, .int mw, .ref ms, .int mgl, .int mhd, .int mre, .int mag, .int mkt, .int mho, .int mpc, .int msd, .int mki, .ref mk, .ref ma, .ref mo, .ref mg, .ref mm, .ref mt, .int mdn, .int mun, .ref mn, .int mtk, .ref me, .ref mq, .int msv, .ref mwo, .ref md, .ref mf, .ref mr])), (ms, .inl (cI, 81, .inl fs)), (mk, .inl (cI, 40, .inl fk)), (ma, .inl (cI, 40, .inl fa)), (mo, .inl (cI, 81, .inl fo)), (mg, .inl (cI, 81, .inl fr)), (mt, .inl (cB, 172241, .inl gs_))] := hD
          have hl : lv_has ls 8 [(7, .int a_46), (6, .int (nI k)), (5, .int c4), (4, .int c3), (3, .int c2), (2, .int c1), (0, .ref mx), (1, .int p1)] := hl
          have hI : v1 = if kt_iK (fs k) = true then 1 else 0 := hI
          have e_v1 := hI
          refine lv_iadd hx hb dX11_begin_68 ?_
          refine lv_topi (fun t_68 et_68 => ?_)
          first | have hk_68 := kt_addx et_68 (by first | omega | (simp only [kt_c0, kt_c1, kt_c2, kt_c3, kt_c4, kt_c8, kt_c9, kt_cm1, kt_c81, kt_c40, kt_c7, kt_c5, kt_c6, kt_c512, kt_c10, kt_c10000]; omega)) (by first | omega | (simp only [kt_c0, kt_c1, kt_c2, kt_c3, kt_c4, kt_c8, kt_c9, kt_cm1, kt_c81, kt_c40, kt_c7, kt_c5, kt_c6, kt_c512, kt_c10, kt_c10000]; omega)) | obtain ⟨k_68, hk_68, hm_68, hM_68⟩ := kt_addk et_68
          refine lv_istore_n (lv' := [(2, .int t_68), (7, .int a_46), (6, .int (nI k)), (5, .int c4), (4, .int c3), (3, .int c2), (0, .ref mx), (1, .int p1)]) hx hb dX11_begin_69 rfl hl (by decide) rfl (fun ls hl => ?_)
          refine lv_iload_n hx hb dX11_begin_70 rfl (lv_at hl 5 rfl) ?_
          refine lv_iload hx hb dX11_begin_71 (lv_at hl 1 rfl) ?_
          refine lv_iconst (v := 3) hx hb dX11_begin_73 (by decide) ?_
          refine kt_join (σ := Int32) 88 8 (fun u => [(mx, .inr (11, [.int ml, .int mw, .ref ms, .int mgl, .int mhd, .int mre, .int mag, .int mkt, .int mho, .int mpc, .int msd, .int mki, .ref mk, .ref ma, .ref mo, .ref mg, .ref mm, .ref mt, .int mdn, .int mun, .ref mn, .int mtk, .ref me, .ref mq, .int msv, .ref mwo, .ref md, .ref mf, .ref mr])), (ms, .inl (cI, 81, .inl fs)), (mk, .inl (cI, 40, .inl fk)), (ma, .inl (cI, 40, .inl fa)), (mo, .inl (cI, 81, .inl fo)), (mg, .inl (cI, 81, .inl fr)), (mt, .inl (cB, 172241, .inl gs_))]) (fun u => [(2, .int t_68), (7, .int a_46), (6, .int (nI k)), (5, .int c4), (4, .int c3), (3, .int c2), (0, .ref mx), (1, .int p1)]) (fun u => [.int u, .int c2]) (fun u => u = if kt_iR (fs k) = true then 1 else 0) (D := D) (A := A) (H0 := s.heap) (fun u hI H locs hP hD hS ls hl => ?_) (fun j_88 => ?_)
          · obtain ⟨v2, rfl⟩ : ∃ z, z = u := ⟨_, rfl⟩
            have hP : va_P D vwCl [(mx, .inr (11, [.int ml, .int mw, .ref ms, .int mgl, .int mhd, .int mre, .int mag, .int mkt, .int mho, .int mpc, .int msd, .int mki, .ref mk, .ref ma, .ref mo, .ref mg, .ref mm, .ref mt, .int mdn, .int mun, .ref mn, .int mtk, .ref me, .ref mq, .int msv, .ref mwo, .ref md, .ref mf, .ref mr])), (ms, .inl (cI, 81, .inl fs)), (mk, .inl (cI, 40, .inl fk)), (ma, .inl (cI, 40, .inl fa)), (mo, .inl (cI, 81, .inl fo)), (mg, .inl (cI, 81, .inl fr)), (mt, .inl (cB, 172241, .inl gs_))] H := hP
            have hD : va_D A [(mx, .inr (11, [.int ml, .int mw, .ref ms, .int mgl, .int mhd, .int mre, .int mag, .int mkt, .int mho, .int mpc, .int msd, .int mki, .ref mk, .ref ma, .ref mo, .ref mg, .ref mm, .ref mt, .int mdn, .int mun, .ref mn, .int mtk, .ref me, .ref mq, .int msv, .ref mwo, .ref md, .ref mf, .ref mr])), (ms, .inl (cI, 81, .inl fs)), (mk, .inl (cI, 40, .inl fk)), (ma, .inl (cI, 40, .inl fa)), (mo, .inl (cI, 81, .inl fo)), (mg, .inl (cI, 81, .inl fr)), (mt, .inl (cB, 172241, .inl gs_))] := hD
            have hl : lv_has ls 8 [(2, .int t_68), (7, .int a_46), (6, .int (nI k)), (5, .int c4), (4, .int c3), (3, .int c2), (0, .ref mx), (1, .int p1)] := hl
            have hI : v2 = if kt_iR (fs k) = true then 1 else 0 := hI
            have e_v2 := hI
            refine lv_iadd hx hb dX11_begin_88 ?_
            refine lv_topi (fun t_88 et_88 => ?_)
            first | have hk_88 := kt_addx et_88 (by first | omega | (simp only [kt_c0, kt_c1, kt_c2, kt_c3, kt_c4, kt_c8, kt_c9, kt_cm1, kt_c81, kt_c40, kt_c7, kt_c5, kt_c6, kt_c512, kt_c10, kt_c10000]; omega)) (by first | omega | (simp only [kt_c0, kt_c1, kt_c2, kt_c3, kt_c4, kt_c8, kt_c9, kt_cm1, kt_c81, kt_c40, kt_c7, kt_c5, kt_c6, kt_c512, kt_c10, kt_c10000]; omega)) | obtain ⟨k_88, hk_88, hm_88, hM_88⟩ := kt_addk et_88
            refine lv_istore_n (lv' := [(3, .int t_88), (2, .int t_68), (7, .int a_46), (6, .int (nI k)), (5, .int c4), (4, .int c3), (0, .ref mx), (1, .int p1)]) hx hb dX11_begin_89 rfl hl (by decide) rfl (fun ls hl => ?_)
            refine lv_iload hx hb dX11_begin_90 (lv_at hl 5 rfl) ?_
            refine lv_iload hx hb dX11_begin_92 (lv_at hl 2 rfl) ?_
            refine lv_iconst (v := 5) hx hb dX11_begin_94 (by decide) ?_
            refine kt_join (σ := Int32) 110 8 (fun u => [(mx, .inr (11, [.int ml, .int mw, .ref ms, .int mgl, .int mhd, .int mre, .int mag, .int mkt, .int mho, .int mpc, .int msd, .int mki, .ref mk, .ref ma, .ref mo, .ref mg, .ref mm, .ref mt, .int mdn, .int mun, .ref mn, .int mtk, .ref me, .ref mq, .int msv, .ref mwo, .ref md, .ref mf, .ref mr])), (ms, .inl (cI, 81, .inl fs)), (mk, .inl (cI, 40, .inl fk)), (ma, .inl (cI, 40, .inl fa)), (mo, .inl (cI, 81, .inl fo)), (mg, .inl (cI, 81, .inl fr)), (mt, .inl (cB, 172241, .inl gs_))]) (fun u => [(3, .int t_88), (2, .int t_68), (7, .int a_46), (6, .int (nI k)), (5, .int c4), (4, .int c3), (0, .ref mx), (1, .int p1)]) (fun u => [.int u, .int c3]) (fun u => u = if kt_iT (fs k) = true then 1 else 0) (D := D) (A := A) (H0 := s.heap) (fun u hI H locs hP hD hS ls hl => ?_) (fun j_110 => ?_)
            · obtain ⟨v3, rfl⟩ : ∃ z, z = u := ⟨_, rfl⟩
              have hP : va_P D vwCl [(mx, .inr (11, [.int ml, .int mw, .ref ms, .int mgl, .int mhd, .int mre, .int mag, .int mkt, .int mho, .int mpc, .int msd, .int mki, .ref mk, .ref ma, .ref mo, .ref mg, .ref mm, .ref mt, .int mdn, .int mun, .ref mn, .int mtk, .ref me, .ref mq, .int msv, .ref mwo, .ref md, .ref mf, .ref mr])), (ms, .inl (cI, 81, .inl fs)), (mk, .inl (cI, 40, .inl fk)), (ma, .inl (cI, 40, .inl fa)), (mo, .inl (cI, 81, .inl fo)), (mg, .inl (cI, 81, .inl fr)), (mt, .inl (cB, 172241, .inl gs_))] H := hP
              have hD : va_D A [(mx, .inr (11, [.int ml, .int mw, .ref ms, .int mgl, .int mhd, .int mre, .int mag, .int mkt, .int mho, .int mpc, .int msd, .int mki, .ref mk, .ref ma, .ref mo, .ref mg, .ref mm, .ref mt, .int mdn, .int mun, .ref mn, .int mtk, .ref me, .ref mq, .int msv, .ref mwo, .ref md, .ref mf, .ref mr])), (ms, .inl (cI, 81, .inl fs)), (mk, .inl (cI, 40, .inl fk)), (ma, .inl (cI, 40, .inl fa)), (mo, .inl (cI, 81, .inl fo)), (mg, .inl (cI, 81, .inl fr)), (mt, .inl (cB, 172241, .inl gs_))] := hD
              have hl : lv_has ls 8 [(3, .int t_88), (2, .int t_68), (7, .int a_46), (6, .int (nI k)), (5, .int c4), (4, .int c3), (0, .ref mx), (1, .int p1)] := hl
              have hI : v3 = if kt_iT (fs k) = true then 1 else 0 := hI
              have e_v3 := hI
              refine lv_iadd hx hb dX11_begin_110 ?_
              refine lv_topi (fun t_110 et_110 => ?_)
              first | have hk_110 := kt_addx et_110 (by first | omega | (simp only [kt_c0, kt_c1, kt_c2, kt_c3, kt_c4, kt_c8, kt_c9, kt_cm1, kt_c81, kt_c40, kt_c7, kt_c5, kt_c6, kt_c512, kt_c10, kt_c10000]; omega)) (by first | omega | (simp only [kt_c0, kt_c1, kt_c2, kt_c3, kt_c4, kt_c8, kt_c9, kt_cm1, kt_c81, kt_c40, kt_c7, kt_c5, kt_c6, kt_c512, kt_c10, kt_c10000]; omega)) | obtain ⟨k_110, hk_110, hm_110, hM_110⟩ := kt_addk et_110
              refine lv_istore (lv' := [(4, .int t_110), (3, .int t_88), (2, .int t_68), (7, .int a_46), (6, .int (nI k)), (5, .int c4), (0, .ref mx), (1, .int p1)]) hx hb dX11_begin_111 hl (by decide) rfl (fun ls hl => ?_)
              refine lv_iload hx hb dX11_begin_113 (lv_at hl 5 rfl) ?_
              refine lv_iload hx hb dX11_begin_115 (lv_at hl 3 rfl) ?_
              refine kt_join (σ := Int32) 138 8 (fun u => [(mx, .inr (11, [.int ml, .int mw, .ref ms, .int mgl, .int mhd, .int mre, .int mag, .int mkt, .int mho, .int mpc, .int msd, .int mki, .ref mk, .ref ma, .ref mo, .ref mg, .ref mm, .ref mt, .int mdn, .int mun, .ref mn, .int mtk, .ref me, .ref mq, .int msv, .ref mwo, .ref md, .ref mf, .ref mr])), (ms, .inl (cI, 81, .inl fs)), (mk, .inl (cI, 40, .inl fk)), (ma, .inl (cI, 40, .inl fa)), (mo, .inl (cI, 81, .inl fo)), (mg, .inl (cI, 81, .inl fr)), (mt, .inl (cB, 172241, .inl gs_))]) (fun u => [(4, .int t_110), (3, .int t_88), (2, .int t_68), (7, .int a_46), (6, .int (nI k)), (5, .int c4), (0, .ref mx), (1, .int p1)]) (fun u => [.int u, .int c4]) (fun u => u = if kt_iP (fs k) = true then 1 else 0) (D := D) (A := A) (H0 := s.heap) (fun u hI H locs hP hD hS ls hl => ?_) (fun j_138 => ?_)
              · obtain ⟨v4, rfl⟩ : ∃ z, z = u := ⟨_, rfl⟩
                have hP : va_P D vwCl [(mx, .inr (11, [.int ml, .int mw, .ref ms, .int mgl, .int mhd, .int mre, .int mag, .int mkt, .int mho, .int mpc, .int msd, .int mki, .ref mk, .ref ma, .ref mo, .ref mg, .ref mm, .ref mt, .int mdn, .int mun, .ref mn, .int mtk, .ref me, .ref mq, .int msv, .ref mwo, .ref md, .ref mf, .ref mr])), (ms, .inl (cI, 81, .inl fs)), (mk, .inl (cI, 40, .inl fk)), (ma, .inl (cI, 40, .inl fa)), (mo, .inl (cI, 81, .inl fo)), (mg, .inl (cI, 81, .inl fr)), (mt, .inl (cB, 172241, .inl gs_))] H := hP
                have hD : va_D A [(mx, .inr (11, [.int ml, .int mw, .ref ms, .int mgl, .int mhd, .int mre, .int mag, .int mkt, .int mho, .int mpc, .int msd, .int mki, .ref mk, .ref ma, .ref mo, .ref mg, .ref mm, .ref mt, .int mdn, .int mun, .ref mn, .int mtk, .ref me, .ref mq, .int msv, .ref mwo, .ref md, .ref mf, .ref mr])), (ms, .inl (cI, 81, .inl fs)), (mk, .inl (cI, 40, .inl fk)), (ma, .inl (cI, 40, .inl fa)), (mo, .inl (cI, 81, .inl fo)), (mg, .inl (cI, 81, .inl fr)), (mt, .inl (cB, 172241, .inl gs_))] := hD
                have hl : lv_has ls 8 [(4, .int t_110), (3, .int t_88), (2, .int t_68), (7, .int a_46), (6, .int (nI k)), (5, .int c4), (0, .ref mx), (1, .int p1)] := hl
                have hI : v4 = if kt_iP (fs k) = true then 1 else 0 := hI
                have e_v4 := hI
                refine lv_iadd hx hb dX11_begin_138 ?_
                refine lv_topi (fun t_138 et_138 => ?_)
                first | have hk_138 := kt_addx et_138 (by first | omega | (simp only [kt_c0, kt_c1, kt_c2, kt_c3, kt_c4, kt_c8, kt_c9, kt_cm1, kt_c81, kt_c40, kt_c7, kt_c5, kt_c6, kt_c512, kt_c10, kt_c10000]; omega)) (by first | omega | (simp only [kt_c0, kt_c1, kt_c2, kt_c3, kt_c4, kt_c8, kt_c9, kt_cm1, kt_c81, kt_c40, kt_c7, kt_c5, kt_c6, kt_c512, kt_c10, kt_c10000]; omega)) | obtain ⟨k_138, hk_138, hm_138, hM_138⟩ := kt_addk et_138
                refine lv_istore (lv' := [(5, .int t_138), (4, .int t_110), (3, .int t_88), (2, .int t_68), (7, .int a_46), (6, .int (nI k)), (0, .ref mx), (1, .int p1)]) hx hb dX11_begin_139 hl (by decide) rfl (fun ls hl => ?_)
                refine lv_iinc (v := nI (k + 1)) (lv' := [(6, .int (nI (k + 1))), (5, .int t_138), (4, .int t_110), (3, .int t_88), (2, .int t_68), (7, .int a_46), (0, .ref mx), (1, .int p1)]) hx hb dX11_begin_141 hl (k := 5) rfl (nI_1 _) (by decide) rfl (fun ls hl => ?_)
                refine lv_goto (tgt := 31) hx hb dX11_begin_144 (by decide) ?_
                exact ih_31 ((k + 1), t_68, t_88, t_110, t_138) (by show ((k + 1) ≤ 81 ∧ 81 < (k + 1) + n_31 ∧ (k + 1) ≤ kt_sz ml mw) ∧ t_68 = nI (kt_ct kt_iK fs (k + 1)) ∧ t_88 = nI (kt_ct kt_iR fs (k + 1)) ∧ t_110 = nI (kt_ct kt_iT fs (k + 1)) ∧ t_138 = nI (kt_ct kt_iP fs (k + 1)); exact ⟨by omega, kt_ct_add h1 e_v1 et_68, kt_ct_add h2 e_v2 et_88, kt_ct_add h3 e_v3 et_110, kt_ct_add h4 e_v4 et_138⟩) H _ hP hD hS ls (lv_sub hl [0, 1, 2, 3, 4, 6, 7] rfl)
              refine lv_if_eq (tgt := 137) hx hb dX11_begin_117 (by decide) (fun c_117 => ?_) (fun c_117 => ?_)
              · have d_117 := c_117
                simp only [kt_lt, kt_le, kt_eq, kt_c0, kt_c1, kt_c2, kt_c3, kt_c4, kt_c8, kt_c9, kt_cm1, kt_c81, kt_c40, kt_c7, kt_c5, kt_c6, kt_c512, kt_c10, kt_c10000] at d_117
                refine lv_iconst (v := 0) hx hb dX11_begin_137 (by decide) ?_
                exact j_138 (0 : Int32) (by show (0 : Int32) = if kt_iP (fs k) = true then 1 else 0; rw [← ea_46]; exact kt_sP hs46 (by first | exact Or.inl ⟨rfl, c_117, c_123, c_130⟩ | exact Or.inr ⟨rfl, fun h => h.1 c_117⟩ | exact Or.inr ⟨rfl, fun h => h.2.1 c_123⟩ | exact Or.inr ⟨rfl, fun h => h.2.2 c_130⟩)) H _ hP hD hS ls (lv_sub hl [0, 1, 2, 3, 4, 5, 6, 7] rfl)
              · have d_117 := c_117
                simp only [kt_lt, kt_le, kt_eq, kt_c0, kt_c1, kt_c2, kt_c3, kt_c4, kt_c8, kt_c9, kt_cm1, kt_c81, kt_c40, kt_c7, kt_c5, kt_c6, kt_c512, kt_c10, kt_c10000] at d_117
                refine lv_iload hx hb dX11_begin_120 (lv_at hl 3 rfl) ?_
                refine lv_iconst (v := 5) hx hb dX11_begin_122 (by decide) ?_
                refine lv_icmp_eq (tgt := 137) hx hb dX11_begin_123 (by decide) (fun c_123 => ?_) (fun c_123 => ?_)
                · have d_123 := c_123
                  simp only [kt_lt, kt_le, kt_eq, kt_c0, kt_c1, kt_c2, kt_c3, kt_c4, kt_c8, kt_c9, kt_cm1, kt_c81, kt_c40, kt_c7, kt_c5, kt_c6, kt_c512, kt_c10, kt_c10000] at d_123
                  refine lv_iconst (v := 0) hx hb dX11_begin_137 (by decide) ?_
                  exact j_138 (0 : Int32) (by show (0 : Int32) = if kt_iP (fs k) = true then 1 else 0; rw [← ea_46]; exact kt_sP hs46 (by first | exact Or.inl ⟨rfl, c_117, c_123, c_130⟩ | exact Or.inr ⟨rfl, fun h => h.1 c_117⟩ | exact Or.inr ⟨rfl, fun h => h.2.1 c_123⟩ | exact Or.inr ⟨rfl, fun h => h.2.2 c_130⟩)) H _ hP hD hS ls (lv_sub hl [0, 1, 2, 3, 4, 5, 6, 7] rfl)
                · have d_123 := c_123
                  simp only [kt_lt, kt_le, kt_eq, kt_c0, kt_c1, kt_c2, kt_c3, kt_c4, kt_c8, kt_c9, kt_cm1, kt_c81, kt_c40, kt_c7, kt_c5, kt_c6, kt_c512, kt_c10, kt_c10000] at d_123
                  refine lv_iload hx hb dX11_begin_126 (lv_at hl 3 rfl) ?_
                  refine lv_bipush (v := 6) hx hb dX11_begin_128 (by decide) ?_
                  refine lv_icmp_eq (tgt := 137) hx hb dX11_begin_130 (by decide) (fun c_130 => ?_) (fun c_130 => ?_)
                  · have d_130 := c_130
                    simp only [kt_lt, kt_le, kt_eq, kt_c0, kt_c1, kt_c2, kt_c3, kt_c4, kt_c8, kt_c9, kt_cm1, kt_c81, kt_c40, kt_c7, kt_c5, kt_c6, kt_c512, kt_c10, kt_c10000] at d_130
                    refine lv_iconst (v := 0) hx hb dX11_begin_137 (by decide) ?_
                    exact j_138 (0 : Int32) (by show (0 : Int32) = if kt_iP (fs k) = true then 1 else 0; rw [← ea_46]; exact kt_sP hs46 (by first | exact Or.inl ⟨rfl, c_117, c_123, c_130⟩ | exact Or.inr ⟨rfl, fun h => h.1 c_117⟩ | exact Or.inr ⟨rfl, fun h => h.2.1 c_123⟩ | exact Or.inr ⟨rfl, fun h => h.2.2 c_130⟩)) H _ hP hD hS ls (lv_sub hl [0, 1, 2, 3, 4, 5, 6, 7] rfl)
                  · have d_130 := c_130
                    simp only [kt_lt, kt_le, kt_eq, kt_c0, kt_c1, kt_c2, kt_c3, kt_c4, kt_c8, kt_c9, kt_cm1, kt_c81, kt_c40, kt_c7, kt_c5, kt_c6, kt_c512, kt_c10, kt_c10000] at d_130
                    refine lv_iconst (v := 1) hx hb dX11_begin_133 (by decide) ?_
                    refine lv_goto (tgt := 138) hx hb dX11_begin_134 (by decide) ?_
                    exact j_138 (1 : Int32) (by show (1 : Int32) = if kt_iP (fs k) = true then 1 else 0; rw [← ea_46]; exact kt_sP hs46 (by first | exact Or.inl ⟨rfl, c_117, c_123, c_130⟩ | exact Or.inr ⟨rfl, fun h => h.1 c_117⟩ | exact Or.inr ⟨rfl, fun h => h.2.1 c_123⟩ | exact Or.inr ⟨rfl, fun h => h.2.2 c_130⟩)) H _ hP hD hS ls (lv_sub hl [0, 1, 2, 3, 4, 5, 6, 7] rfl)
            refine lv_icmp_eq (tgt := 105) hx hb dX11_begin_95 (by decide) (fun c_95 => ?_) (fun c_95 => ?_)
            · have d_95 := c_95
              simp only [kt_lt, kt_le, kt_eq, kt_c0, kt_c1, kt_c2, kt_c3, kt_c4, kt_c8, kt_c9, kt_cm1, kt_c81, kt_c40, kt_c7, kt_c5, kt_c6, kt_c512, kt_c10, kt_c10000] at d_95
              refine lv_iconst (v := 1) hx hb dX11_begin_105 (by decide) ?_
              refine lv_goto (tgt := 110) hx hb dX11_begin_106 (by decide) ?_
              exact j_110 (1 : Int32) (by show (1 : Int32) = if kt_iT (fs k) = true then 1 else 0; rw [← ea_46]; exact kt_sT (by first | exact Or.inl ⟨rfl, Or.inl c_95⟩ | exact Or.inl ⟨rfl, Or.inr c_102⟩ | exact Or.inr ⟨rfl, fun h => h.elim c_95 c_102⟩)) H _ hP hD hS ls (lv_sub hl [0, 1, 2, 3, 4, 5, 6, 7] rfl)
            · have d_95 := c_95
              simp only [kt_lt, kt_le, kt_eq, kt_c0, kt_c1, kt_c2, kt_c3, kt_c4, kt_c8, kt_c9, kt_cm1, kt_c81, kt_c40, kt_c7, kt_c5, kt_c6, kt_c512, kt_c10, kt_c10000] at d_95
              refine lv_iload hx hb dX11_begin_98 (lv_at hl 2 rfl) ?_
              refine lv_bipush (v := 7) hx hb dX11_begin_100 (by decide) ?_
              refine lv_icmp_ne (tgt := 109) hx hb dX11_begin_102 (by decide) (fun c_102 => ?_) (fun c_102 => ?_)
              · have d_102 := c_102
                simp only [kt_lt, kt_le, kt_eq, kt_c0, kt_c1, kt_c2, kt_c3, kt_c4, kt_c8, kt_c9, kt_cm1, kt_c81, kt_c40, kt_c7, kt_c5, kt_c6, kt_c512, kt_c10, kt_c10000] at d_102
                refine lv_iconst (v := 0) hx hb dX11_begin_109 (by decide) ?_
                exact j_110 (0 : Int32) (by show (0 : Int32) = if kt_iT (fs k) = true then 1 else 0; rw [← ea_46]; exact kt_sT (by first | exact Or.inl ⟨rfl, Or.inl c_95⟩ | exact Or.inl ⟨rfl, Or.inr c_102⟩ | exact Or.inr ⟨rfl, fun h => h.elim c_95 c_102⟩)) H _ hP hD hS ls (lv_sub hl [0, 1, 2, 3, 4, 5, 6, 7] rfl)
              · have d_102 := c_102
                simp only [kt_lt, kt_le, kt_eq, kt_c0, kt_c1, kt_c2, kt_c3, kt_c4, kt_c8, kt_c9, kt_cm1, kt_c81, kt_c40, kt_c7, kt_c5, kt_c6, kt_c512, kt_c10, kt_c10000] at d_102
                refine lv_iconst (v := 1) hx hb dX11_begin_105 (by decide) ?_
                refine lv_goto (tgt := 110) hx hb dX11_begin_106 (by decide) ?_
                exact j_110 (1 : Int32) (by show (1 : Int32) = if kt_iT (fs k) = true then 1 else 0; rw [← ea_46]; exact kt_sT (by first | exact Or.inl ⟨rfl, Or.inl c_95⟩ | exact Or.inl ⟨rfl, Or.inr c_102⟩ | exact Or.inr ⟨rfl, fun h => h.elim c_95 c_102⟩)) H _ hP hD hS ls (lv_sub hl [0, 1, 2, 3, 4, 5, 6, 7] rfl)
          refine lv_icmp_eq (tgt := 83) hx hb dX11_begin_74 (by decide) (fun c_74 => ?_) (fun c_74 => ?_)
          · have d_74 := c_74
            simp only [kt_lt, kt_le, kt_eq, kt_c0, kt_c1, kt_c2, kt_c3, kt_c4, kt_c8, kt_c9, kt_cm1, kt_c81, kt_c40, kt_c7, kt_c5, kt_c6, kt_c512, kt_c10, kt_c10000] at d_74
            refine lv_iconst (v := 1) hx hb dX11_begin_83 (by decide) ?_
            refine lv_goto (tgt := 88) hx hb dX11_begin_84 (by decide) ?_
            exact j_88 (1 : Int32) (by show (1 : Int32) = if kt_iR (fs k) = true then 1 else 0; rw [← ea_46]; exact kt_sR (by first | exact Or.inl ⟨rfl, Or.inl c_74⟩ | exact Or.inl ⟨rfl, Or.inr c_80⟩ | exact Or.inr ⟨rfl, fun h => h.elim c_74 c_80⟩)) H _ hP hD hS ls (lv_sub hl [0, 1, 2, 3, 4, 5, 6, 7] rfl)
          · have d_74 := c_74
            simp only [kt_lt, kt_le, kt_eq, kt_c0, kt_c1, kt_c2, kt_c3, kt_c4, kt_c8, kt_c9, kt_cm1, kt_c81, kt_c40, kt_c7, kt_c5, kt_c6, kt_c512, kt_c10, kt_c10000] at d_74
            refine lv_iload hx hb dX11_begin_77 (lv_at hl 1 rfl) ?_
            refine lv_iconst (v := 4) hx hb dX11_begin_79 (by decide) ?_
            refine lv_icmp_ne (tgt := 87) hx hb dX11_begin_80 (by decide) (fun c_80 => ?_) (fun c_80 => ?_)
            · have d_80 := c_80
              simp only [kt_lt, kt_le, kt_eq, kt_c0, kt_c1, kt_c2, kt_c3, kt_c4, kt_c8, kt_c9, kt_cm1, kt_c81, kt_c40, kt_c7, kt_c5, kt_c6, kt_c512, kt_c10, kt_c10000] at d_80
              refine lv_iconst (v := 0) hx hb dX11_begin_87 (by decide) ?_
              exact j_88 (0 : Int32) (by show (0 : Int32) = if kt_iR (fs k) = true then 1 else 0; rw [← ea_46]; exact kt_sR (by first | exact Or.inl ⟨rfl, Or.inl c_74⟩ | exact Or.inl ⟨rfl, Or.inr c_80⟩ | exact Or.inr ⟨rfl, fun h => h.elim c_74 c_80⟩)) H _ hP hD hS ls (lv_sub hl [0, 1, 2, 3, 4, 5, 6, 7] rfl)
            · have d_80 := c_80
              simp only [kt_lt, kt_le, kt_eq, kt_c0, kt_c1, kt_c2, kt_c3, kt_c4, kt_c8, kt_c9, kt_cm1, kt_c81, kt_c40, kt_c7, kt_c5, kt_c6, kt_c512, kt_c10, kt_c10000] at d_80
              refine lv_iconst (v := 1) hx hb dX11_begin_83 (by decide) ?_
              refine lv_goto (tgt := 88) hx hb dX11_begin_84 (by decide) ?_
              exact j_88 (1 : Int32) (by show (1 : Int32) = if kt_iR (fs k) = true then 1 else 0; rw [← ea_46]; exact kt_sR (by first | exact Or.inl ⟨rfl, Or.inl c_74⟩ | exact Or.inl ⟨rfl, Or.inr c_80⟩ | exact Or.inr ⟨rfl, fun h => h.elim c_74 c_80⟩)) H _ hP hD hS ls (lv_sub hl [0, 1, 2, 3, 4, 5, 6, 7] rfl)
        refine lv_icmp_eq (tgt := 63) hx hb dX11_begin_53 (by decide) (fun c_53 => ?_) (fun c_53 => ?_)
        · have d_53 := c_53
          simp only [kt_lt, kt_le, kt_eq, kt_c0, kt_c1, kt_c2, kt_c3, kt_c4, kt_c8, kt_c9, kt_cm1, kt_c81, kt_c40, kt_c7, kt_c5, kt_c6, kt_c512, kt_c10, kt_c10000] at d_53
          refine lv_iconst (v := 1) hx hb dX11_begin_63 (by decide) ?_
          refine lv_goto (tgt := 68) hx hb dX11_begin_64 (by decide) ?_
          exact j_68 (1 : Int32) (by show (1 : Int32) = if kt_iK (fs k) = true then 1 else 0; rw [← ea_46]; exact kt_sK (by first | exact Or.inl ⟨rfl, Or.inl c_53⟩ | exact Or.inl ⟨rfl, Or.inr c_60⟩ | exact Or.inr ⟨rfl, fun h => h.elim c_53 c_60⟩)) H _ hP hD hS ls (lv_sub hl [0, 1, 2, 3, 4, 5, 6, 7] rfl)
        · have d_53 := c_53
          simp only [kt_lt, kt_le, kt_eq, kt_c0, kt_c1, kt_c2, kt_c3, kt_c4, kt_c8, kt_c9, kt_cm1, kt_c81, kt_c40, kt_c7, kt_c5, kt_c6, kt_c512, kt_c10, kt_c10000] at d_53
          refine lv_iload hx hb dX11_begin_56 (lv_at hl 0 rfl) ?_
          refine lv_bipush (v := 7) hx hb dX11_begin_58 (by decide) ?_
          refine lv_icmp_ne (tgt := 67) hx hb dX11_begin_60 (by decide) (fun c_60 => ?_) (fun c_60 => ?_)
          · have d_60 := c_60
            simp only [kt_lt, kt_le, kt_eq, kt_c0, kt_c1, kt_c2, kt_c3, kt_c4, kt_c8, kt_c9, kt_cm1, kt_c81, kt_c40, kt_c7, kt_c5, kt_c6, kt_c512, kt_c10, kt_c10000] at d_60
            refine lv_iconst (v := 0) hx hb dX11_begin_67 (by decide) ?_
            exact j_68 (0 : Int32) (by show (0 : Int32) = if kt_iK (fs k) = true then 1 else 0; rw [← ea_46]; exact kt_sK (by first | exact Or.inl ⟨rfl, Or.inl c_53⟩ | exact Or.inl ⟨rfl, Or.inr c_60⟩ | exact Or.inr ⟨rfl, fun h => h.elim c_53 c_60⟩)) H _ hP hD hS ls (lv_sub hl [0, 1, 2, 3, 4, 5, 6, 7] rfl)
          · have d_60 := c_60
            simp only [kt_lt, kt_le, kt_eq, kt_c0, kt_c1, kt_c2, kt_c3, kt_c4, kt_c8, kt_c9, kt_cm1, kt_c81, kt_c40, kt_c7, kt_c5, kt_c6, kt_c512, kt_c10, kt_c10000] at d_60
            refine lv_iconst (v := 1) hx hb dX11_begin_63 (by decide) ?_
            refine lv_goto (tgt := 68) hx hb dX11_begin_64 (by decide) ?_
            exact j_68 (1 : Int32) (by show (1 : Int32) = if kt_iK (fs k) = true then 1 else 0; rw [← ea_46]; exact kt_sK (by first | exact Or.inl ⟨rfl, Or.inl c_53⟩ | exact Or.inl ⟨rfl, Or.inr c_60⟩ | exact Or.inr ⟨rfl, fun h => h.elim c_53 c_60⟩)) H _ hP hD hS ls (lv_sub hl [0, 1, 2, 3, 4, 5, 6, 7] rfl)
    · have d_13 := c_13
      simp only [kt_lt, kt_le, kt_eq, kt_c0, kt_c1, kt_c2, kt_c3, kt_c4, kt_c8, kt_c9, kt_cm1, kt_c81, kt_c40, kt_c7, kt_c5, kt_c6, kt_c512, kt_c10, kt_c10000] at d_13
      refine lv_iconst (v := (-1)) hx hb dX11_begin_16 (by decide) ?_
      exact kt_ri (mho, mpc, msd, mki, mdn, mun, mtk, msv, fk, fa, fo, fr, gs_) hx hb hr hlk hS dX11_begin_17 hP hD (by show ((-1 : Int32).toInt = -1 ∧ ¬ (mho.toInt = 0 ∧ (p1.toInt = 0 ∨ p1.toInt = 1) ∧ kt_ok fs (kt_sz ml mw)) ∧ mho = mho ∧ mpc = mpc ∧ msd = msd ∧ mki = mki ∧ mdn = mdn ∧ mun = mun ∧ mtk = mtk ∧ msv = msv ∧ fk = fk ∧ fa = fa ∧ fo = fo ∧ fr = fr ∧ gs_ = gs_) ∨ ((mho.toInt = 0 ∧ (p1.toInt = 0 ∨ p1.toInt = 1) ∧ kt_ok fs (kt_sz ml mw)) ∧ (-1 : Int32) = nI (kt_ct kt_iP fs (kt_sz ml mw)) ∧ (1 ≤ mho.toInt ∧ mho.toInt ≤ 3) ∧ (mdn = 0 ∧ mun = 0 ∧ msv = 0 ∧ mpc = (-1 : Int32)) ∧ kt_PI ml mw mpc msd mki mdn mun mkt mhd fr fk fa fo mv gs_ (kt_ct kt_iP fs (kt_sz ml mw))); first
           | exact Or.inl ⟨by decide, fun h => by omega, rfl, rfl, rfl, rfl, rfl, rfl, rfl, rfl, rfl, rfl, rfl, rfl, rfl⟩
           | exact Or.inl ⟨by decide, fun h => (hw_10.f c_13) (by omega), rfl, rfl, rfl, rfl, rfl, rfl, rfl, rfl, rfl, rfl, rfl, rfl, rfl⟩
           | exact Or.inl ⟨by decide, fun h => by have h9 := h.2.2; unfold kt_ok at h9; omega, rfl, rfl, rfl, rfl, rfl, rfl, rfl, rfl, rfl, rfl, rfl, rfl, rfl⟩
           | exact Or.inr ⟨⟨by omega, by omega, hok⟩, hpx, by first | decide | omega, ⟨rfl, rfl, rfl, rfl⟩, hpin⟩)
