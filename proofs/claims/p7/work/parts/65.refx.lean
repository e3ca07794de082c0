/-! ===== the reference's history ===== -/
theorem kt_cb_k {fo fr : Nat → Int32} {kp : Int32} {re x w L a : Int} {k : Nat} (hk : 1 ≤ k) : (kt_cb fo fr kp re x w L a k : Int) = (kt_cb fo fr kp re x w L a (k - 1) : Int) + (if kt_bar fo fr kp re x w L a (k : Int) = 0 then 1 else 0) := by
  obtain ⟨n, rfl⟩ : ∃ n, k = n + 1 := ⟨k - 1, by omega⟩
  rw [Nat.add_sub_cancel]
  show ((kt_cb fo fr kp re x w L a n + (if kt_bar fo fr kp re x w L a ((n : Int) + 1) = 0 then 1 else 0) : Nat) : Int) = (kt_cb fo fr kp re x w L a n : Int) + (if kt_bar fo fr kp re x w L a ((n : Int) + 1) = 0 then 1 else 0)
  split <;> rfl
/-- a piece that a move took -/
def kt_gone (A B : Nat → Int32) (p : Nat) : Prop := ¬ A p = -1 ∧ B p = -1
def kt_tn (A B : Nat → Int32) : Nat → Nat
  | 0 => 0
  | n + 1 => kt_tn A B n + (if ¬ A n = -1 ∧ B n = -1 then 1 else 0)
theorem kt_tn_le (A B : Nat → Int32) : ∀ n, kt_tn A B n ≤ n
  | 0 => Nat.le_refl 0
  | n + 1 => by
    have := kt_tn_le A B n
    unfold kt_tn
    split <;> omega
theorem kt_tn_ct {A B y : Nat → Int32} : ∀ {n : Nat}, (∀ p, p < n → (¬ y p = 0 ↔ kt_gone A B p)) → kt_ct kt_nz y n = kt_tn A B n
  | 0, _ => rfl
  | n + 1, h => by
    have ih := kt_tn_ct (n := n) (fun p hp => h p (by omega))
    have h1 := h n (by omega)
    show _ = kt_tn A B n + (if ¬ A n = -1 ∧ B n = -1 then 1 else 0)
    by_cases e : y n = 0
    · rw [kt_ct_no (by unfold kt_nz; simp [e]), if_neg (show ¬ (¬ A n = -1 ∧ B n = -1) from fun h2 => (h1.mpr h2) e), ih]; rfl
    · rw [kt_ct_yes (by unfold kt_nz; exact decide_eq_true e), if_pos (show ¬ A n = -1 ∧ B n = -1 from h1.mp e), ih]
theorem kt_ct_u0 {P : Int32 → Bool} {f : Nat → Int32} {n : Nat} {x : Int32} (h : ¬ P x = true) : kt_ct P (upd f n x) (n + 1) = kt_ct P f n := by
  rw [kt_ct_no (by rw [pk_us]; exact h)]
  exact kt_ct_cong (fun j hj => by rw [pk_un (by omega)])
theorem kt_ct_u1 {P : Int32 → Bool} {f : Nat → Int32} {n : Nat} {x : Int32} (h : P x = true) : kt_ct P (upd f n x) (n + 1) = kt_ct P f n + 1 := by
  rw [kt_ct_yes (by rw [pk_us]; exact h)]
  exact congrArg (· + 1) (kt_ct_cong (fun j hj => by rw [pk_un (by omega)]))

set_option maxHeartbeats 4000000 in
set_option maxRecDepth 100000 in
theorem c_X11_bearsE (l : Launch) (D : va_G) (cI cZ cB : ClassId) (sz : Nat) (mx : Nat) (ms : Nat) (mk : Nat) (ma : Nat) (mo : Nat) (mg : Nat) (mm : Nat) (mt : Nat) (mn : Nat) (me : Nat) (mq : Nat) (mwo : Nat) (md : Nat) (mf : Nat) (mr : Nat) (ml : Int32) (mw : Int32) (mgl : Int32) (mhd : Int32) (mre : Int32) (mag : Int32) (mkt : Int32) (mho : Int32) (mpc : Int32) (msd : Int32) (mki : Int32) (mdn : Int32) (mun : Int32) (mtk : Int32) (msv : Int32) (fr : Nat → Int32) (fk : Nat → Int32) (p1 : Int32) (p2 : Int32) (hp1 : 0 ≤ p1.toInt ∧ p1.toInt ≤ 80) (hp2 : 0 ≤ p2.toInt ∧ p2.toInt ≤ 39) : kt_Mi l yX11_bears wsX11_bears { frames := 0, cells := 0, slots := 0, locals := 0 } D (kt_ty cI cZ cB) [.ref mx, .int p1, .int p2] sz [(mx, .inr (11, [.int ml, .int mw, .ref ms, .int mgl, .int mhd, .int mre, .int mag, .int mkt, .int mho, .int mpc, .int msd, .int mki, .ref mk, .ref ma, .ref mo, .ref mg, .ref mm, .ref mt, .int mdn, .int mun, .ref mn, .int mtk, .ref me, .ref mq, .int msv, .ref mwo, .ref md, .ref mf, .ref mr])), (mg, .inl (cI, 81, .inl fr)), (mk, .inl (cI, 40, .inl fk))] (fun (r : Int32) (u : Unit) => kt_B r (fr p1.toNatClampNeg = 0 ∨ fk p2.toNatClampNeg = 2)) (fun (u : Unit) => [(mx, .inr (11, [.int ml, .int mw, .ref ms, .int mgl, .int mhd, .int mre, .int mag, .int mkt, .int mho, .int mpc, .int msd, .int mki, .ref mk, .ref ma, .ref mo, .ref mg, .ref mm, .ref mt, .int mdn, .int mun, .ref mn, .int mtk, .ref me, .ref mq, .int msv, .ref mwo, .ref md, .ref mf, .ref mr])), (mg, .inl (cI, 81, .inl fr)), (mk, .inl (cI, 40, .inl fk))]) 0 0 := by
  refine kt_Mi.of (cc := cX11_bears) (maxL := 3) (ret := some .boolean) (by decide) rfl (Nat.le_of_ble_eq_true rfl) ?_
  intro p e s m below meth c A ls H hAt hP hD hS hl
  obtain ⟨hx, hb, hr, hml, hown, hts, hN, hK, hlk, hnm, hA⟩ := hAt
  have hl : lv_has ls 3 [(0, .ref mx), (1, .int p1), (2, .int p2)] := hl
  have hown : s.vm.findClass RX11 = some m.cls := hown
  refine lv_aload_n hx hb dX11_bears_0 rfl (lv_at hl 0 rfl) ?_
  refine va_get (D := D) (ci := 11) (C := RX11) (T := TX11) (N := 29) hx hb hts iw_X11_bears_X11 hown hK hP 0 rfl rfl 15 (by decide) (hts (.fieldLink RX11 36 "KingTableModel" "ground" "[I") (List.mem_cons_of_mem _ (List.mem_append_left _ (List.Mem.head _)))) (fun _ h9 => h9) rfl dX11_bears_1 ?_
  refine lv_iload_n hx hb dX11_bears_4 rfl (lv_at hl 1 rfl) ?_
  have hi_1 : vp_in p1 81 := by exact kt_in (by omega) (by omega)
  refine va_iald hx hb hK hP 1 0 rfl rfl hi_1 dX11_bears_5 ?_
  refine lv_topi (fun a_5 ea_5 => ?_)
  refine lv_if_eq (tgt := 19) hx hb dX11_bears_6 (by decide) (fun c_6 => ?_) (fun c_6 => ?_)
  · have d_6 := c_6
    simp only [kt_lt, kt_le, kt_eq, kt_c0, kt_c1, kt_c2, kt_c3, kt_c4, kt_c8, kt_c9, kt_cm1, kt_c81, kt_c40, kt_c7, kt_c5, kt_c6, kt_c512, kt_c10, kt_c10000] at d_6
    refine lv_iconst (v := 1) hx hb dX11_bears_19 (by decide) ?_
    refine lv_goto (tgt := 24) hx hb dX11_bears_20 (by decide) ?_
    exact kt_rz () hx hb hr hlk hS dX11_bears_24 hP hD (by show kt_B (1 : Int32) (fr p1.toNatClampNeg = 0 ∨ fk p2.toNatClampNeg = 2); first | exact Or.inl ⟨rfl, Or.inl (ea_5.symm.trans c_6)⟩ | exact Or.inl ⟨rfl, Or.inr (ea_14.symm.trans c_16)⟩ | exact Or.inr ⟨rfl, fun h => h.elim (fun h1 => c_6 (ea_5.trans h1)) (fun h2 => c_16 (ea_14.trans h2))⟩) rfl
  · have d_6 := c_6
    simp only [kt_lt, kt_le, kt_eq, kt_c0, kt_c1, kt_c2, kt_c3, kt_c4, kt_c8, kt_c9, kt_cm1, kt_c81, kt_c40, kt_c7, kt_c5, kt_c6, kt_c512, kt_c10, kt_c10000] at d_6
    refine lv_aload_n hx hb dX11_bears_9 rfl (lv_at hl 0 rfl) ?_
    refine va_get (D := D) (ci := 11) (C := RX11) (T := TX11) (N := 29) hx hb hts iw_X11_bears_X11 hown hK hP 0 rfl rfl 12 (by decide) (hts (.fieldLink RX11 27 "KingTableModel" "kind" "[I") (List.mem_cons_of_mem _ (List.mem_append_left _ (List.mem_cons_of_mem _ (List.Mem.head _))))) (fun _ h9 => h9) rfl dX11_bears_10 ?_
    refine lv_iload_n hx hb dX11_bears_13 rfl (lv_at hl 2 rfl) ?_
    have hi_2 : vp_in p2 40 := by exact kt_in (by omega) (by omega)
    refine va_iald hx hb hK hP 2 0 rfl rfl hi_2 dX11_bears_14 ?_
    refine lv_topi (fun a_14 ea_14 => ?_)
    refine lv_iconst (v := 2) hx hb dX11_bears_15 (by decide) ?_
    refine lv_icmp_ne (tgt := 23) hx hb dX11_bears_16 (by decide) (fun c_16 => ?_) (fun c_16 => ?_)
    · have d_16 := c_16
      simp only [kt_lt, kt_le, kt_eq, kt_c0, kt_c1, kt_c2, kt_c3, kt_c4, kt_c8, kt_c9, kt_cm1, kt_c81, kt_c40, kt_c7, kt_c5, kt_c6, kt_c512, kt_c10, kt_c10000] at d_16
      refine lv_iconst (v := 0) hx hb dX11_bears_23 (by decide) ?_
      exact kt_rz () hx hb hr hlk hS dX11_bears_24 hP hD (by show kt_B (0 : Int32) (fr p1.toNatClampNeg = 0 ∨ fk p2.toNatClampNeg = 2); first | exact Or.inl ⟨rfl, Or.inl (ea_5.symm.trans c_6)⟩ | exact Or.inl ⟨rfl, Or.inr (ea_14.symm.trans c_16)⟩ | exact Or.inr ⟨rfl, fun h => h.elim (fun h1 => c_6 (ea_5.trans h1)) (fun h2 => c_16 (ea_14.trans h2))⟩) rfl
    · have d_16 := c_16
      simp only [kt_lt, kt_le, kt_eq, kt_c0, kt_c1, kt_c2, kt_c3, kt_c4, kt_c8, kt_c9, kt_cm1, kt_c81, kt_c40, kt_c7, kt_c5, kt_c6, kt_c512, kt_c10, kt_c10000] at d_16
      refine lv_iconst (v := 1) hx hb dX11_bears_19 (by decide) ?_
      refine lv_goto (tgt := 24) hx hb dX11_bears_20 (by decide) ?_
      exact kt_rz () hx hb hr hlk hS dX11_bears_24 hP hD (by show kt_B (1 : Int32) (fr p1.toNatClampNeg = 0 ∨ fk p2.toNatClampNeg = 2); first | exact Or.inl ⟨rfl, Or.inl (ea_5.symm.trans c_6)⟩ | exact Or.inl ⟨rfl, Or.inr (ea_14.symm.trans c_16)⟩ | exact Or.inr ⟨rfl, fun h => h.elim (fun h1 => c_6 (ea_5.trans h1)) (fun h2 => c_16 (ea_14.trans h2))⟩) rfl

set_option maxHeartbeats 4000000 in
set_option maxRecDepth 100000 in
theorem c_X11_barX (l : Launch) (D : va_G) (cI cZ cB : ClassId) (sz : Nat) (mx : Nat) (ms : Nat) (mk : Nat) (ma : Nat) (mo : Nat) (mg : Nat) (mm : Nat) (mt : Nat) (mn : Nat) (me : Nat) (mq : Nat) (mwo : Nat) (md : Nat) (mf : Nat) (mr : Nat) (ml : Int32) (mw : Int32) (mgl : Int32) (mhd : Int32) (mre : Int32) (mag : Int32) (mkt : Int32) (mho : Int32) (mpc : Int32) (msd : Int32) (mki : Int32) (mdn : Int32) (mun : Int32) (mtk : Int32) (msv : Int32) (P_ : Nat) (fa : Nat → Int32) (fo : Nat → Int32) (fr : Nat → Int32) (fk : Nat → Int32) (p1 : Int32) (p2 : Int32) (p3 : Int32) (hml_ : 2 ≤ ml.toInt ∧ ml.toInt ≤ 9) (hmw : 2 ≤ mw.toInt ∧ mw.toInt ≤ 9) (hpc : (P_ : Int) = mpc.toInt ∧ P_ ≤ 40) (hfa : kt_r fa P_ (-1) (ml.toInt * mw.toInt - 1)) (hfo : kt_r fo 81 (-1) ((P_ : Int) - 1)) (hp1 : 0 ≤ p1.toInt ∧ p1.toInt < (P_ : Int)) (hon : 0 ≤ (fa p1.toNatClampNeg).toInt) (hp3 : 1 ≤ p3.toInt) : kt_Mi l yX11_bar wsX11_bar { frames := 1, cells := 0, slots := 0, locals := 26 } D (kt_ty cI cZ cB) [.ref mx, .int p1, .int p2, .int p3] sz [(mx, .inr (11, [.int ml, .int mw, .ref ms, .int mgl, .int mhd, .int mre, .int mag, .int mkt, .int mho, .int mpc, .int msd, .int mki, .ref mk, .ref ma, .ref mo, .ref mg, .ref mm, .ref mt, .int mdn, .int mun, .ref mn, .int mtk, .ref me, .ref mq, .int msv, .ref mwo, .ref md, .ref mf, .ref mr])), (ma, .inl (cI, 40, .inl fa)), (mo, .inl (cI, 81, .inl fo)), (mg, .inl (cI, 81, .inl fr)), (mk, .inl (cI, 40, .inl fk))] (fun (r : Int32) (u : Unit) => r.toInt = kt_bar fo fr (fk p1.toNatClampNeg) mre.toInt (fa p1.toNatClampNeg).toInt mw.toInt ml.toInt p2.toInt p3.toInt) (fun (u : Unit) => [(mx, .inr (11, [.int ml, .int mw, .ref ms, .int mgl, .int mhd, .int mre, .int mag, .int mkt, .int mho, .int mpc, .int msd, .int mki, .ref mk, .ref ma, .ref mo, .ref mg, .ref mm, .ref mt, .int mdn, .int mun, .ref mn, .int mtk, .ref me, .ref mq, .int msv, .ref mwo, .ref md, .ref mf, .ref mr])), (ma, .inl (cI, 40, .inl fa)), (mo, .inl (cI, 81, .inl fo)), (mg, .inl (cI, 81, .inl fr)), (mk, .inl (cI, 40, .inl fk))]) 0 0 := by
  refine kt_Mi.of (cc := cX11_bar) (maxL := 6) (ret := some .int) (by decide) rfl (Nat.le_of_ble_eq_true rfl) ?_
  intro p e s m below meth c A ls H hAt hP hD hS hl
  obtain ⟨hx, hb, hr, hml, hown, hts, hN, hK, hlk, hnm, hA⟩ := hAt
  have hl : lv_has ls 6 [(0, .ref mx), (1, .int p1), (2, .int p2), (3, .int p3)] := hl
  have hown : s.vm.findClass RX11 = some m.cls := hown
  have hsb := kt_mulb hml_ hmw
  have hfp := hfa.get (kt_in (x := p1) (n := P_) (by omega) (by omega))
  have hrb := kt_rom_b (a := p2.toInt) hmw hml_ (show 0 ≤ (fa p1.toNatClampNeg).toInt ∧ (fa p1.toNatClampNeg).toInt < ml.toInt * mw.toInt by omega)
  have har := fun n hn => kt_al_r (a := p2.toInt) (n := n) hmw hml_ (show 0 ≤ (fa p1.toNatClampNeg).toInt ∧ (fa p1.toNatClampNeg).toInt < ml.toInt * mw.toInt by omega) hn
  have hbc := kt_bar_c fo fr (fk p1.toNatClampNeg) mre.toInt (fa p1.toNatClampNeg).toInt mw.toInt ml.toInt p2.toInt p3.toInt
  refine lv_aload_n hx hb dX11_bar_0 rfl (lv_at hl 0 rfl) ?_
  refine lv_aload_n hx hb dX11_bar_1 rfl (lv_at hl 0 rfl) ?_
  refine va_get (D := D) (ci := 11) (C := RX11) (T := TX11) (N := 29) hx hb hts iw_X11_bar_X11 hown hK hP 0 rfl rfl 13 (by decide) (hts (.fieldLink RX11 30 "KingTableModel" "at" "[I") (List.mem_cons_of_mem _ (List.mem_append_left _ (List.Mem.head _)))) (fun _ h9 => h9) rfl dX11_bar_2 ?_
  refine lv_iload_n hx hb dX11_bar_5 rfl (lv_at hl 1 rfl) ?_
  have hi_1 : vp_in p1 40 := by exact kt_in (by omega) (by omega)
  refine va_iald hx hb hK hP 1 0 rfl rfl hi_1 dX11_bar_6 ?_
  refine lv_topi (fun a_6 ea_6 => ?_)
  have ra_6 := hfa.get (kt_in (x := p1) (n := P_) (by omega) (by omega))
  rw [← ea_6] at ra_6
  refine lv_iload_n hx hb dX11_bar_7 rfl (lv_at hl 2 rfl) ?_
  refine lv_iload_n hx hb dX11_bar_8 rfl (lv_at hl 3 rfl) ?_
  refine kt_pi (wc := [(mx, .inr (11, [.int ml, .int mw, .ref ms, .int mgl, .int mhd, .int mre, .int mag, .int mkt, .int mho, .int mpc, .int msd, .int mki, .ref mk, .ref ma, .ref mo, .ref mg, .ref mm, .ref mt, .int mdn, .int mun, .ref mn, .int mtk, .ref me, .ref mq, .int msv, .ref mwo, .ref md, .ref mf, .ref mr]))]) [0] hP hD hS hA rfl (by decide) (fun hPc hDc => va_runV (As := [.int a_6, .int p2, .int p3]) (rest := []) ⟨hx, hb, hml, hown, hts⟩ (c_X11_alongE l D cI cZ cB H.size mx ms mk ma mo mg mm mt mn me mq mwo md mf mr ml mw mgl mhd mre mag mkt mho mpc msd mki mdn mun mtk msv a_6 p2 p3 hml_ hmw (by rw [ea_6]; omega) hp3) (cwV 3 hts gX11_bar_X11_along rfl rfl rfl (by decide +kernel) ⟨Nat.le_of_ble_eq_true rfl, Nat.le_of_ble_eq_true rfl⟩) (kt_preV hN hK hPc hDc 0 (ci := 11) (q := (RX11, TX11, 29)) rfl rfl) rfl rfl hl.1 rfl (lv_room (Nat.le_of_ble_eq_true rfl)) dX11_bar_9 ⟨Nat.le_of_ble_eq_true rfl, Nat.le_of_ble_eq_true rfl⟩) (fun r_9 _ H locs hw_9 hP hS => ?_)
  rw [ea_6] at hw_9
  have h9 := har p3.toInt hp3
  rw [← hw_9] at h9
  refine lv_iconst (v := (-1)) hx hb dX11_bar_12 (by decide) ?_
  refine lv_icmp_ne (tgt := 19) hx hb dX11_bar_13 (by decide) (fun c_13 => ?_) (fun c_13 => ?_)
  · have d_13 := c_13
    simp only [kt_lt, kt_le, kt_eq, kt_c0, kt_c1, kt_c2, kt_c3, kt_c4, kt_c8, kt_c9, kt_cm1, kt_c81, kt_c40, kt_c7, kt_c5, kt_c6, kt_c512, kt_c10, kt_c10000] at d_13
    refine lv_aload_n hx hb dX11_bar_19 rfl (lv_at hl 0 rfl) ?_
    refine va_get (D := D) (ci := 11) (C := RX11) (T := TX11) (N := 29) hx hb hts iw_X11_bar_X11 hown hK hP 0 rfl rfl 12 (by decide) (hts (.fieldLink RX11 27 "KingTableModel" "kind" "[I") (List.mem_cons_of_mem _ (List.mem_append_left _ (List.mem_cons_of_mem _ (List.Mem.head _))))) (fun _ h9 => h9) rfl dX11_bar_20 ?_
    refine lv_iload_n hx hb dX11_bar_23 rfl (lv_at hl 1 rfl) ?_
    have hi_2 : vp_in p1 40 := by exact kt_in (by omega) (by omega)
    refine va_iald hx hb hK hP 4 0 rfl rfl hi_2 dX11_bar_24 ?_
    refine lv_topi (fun a_24 ea_24 => ?_)
    refine lv_iconst (v := 2) hx hb dX11_bar_25 (by decide) ?_
    refine kt_join (σ := Unit) 47 6 (fun u => [(mx, .inr (11, [.int ml, .int mw, .ref ms, .int mgl, .int mhd, .int mre, .int mag, .int mkt, .int mho, .int mpc, .int msd, .int mki, .ref mk, .ref ma, .ref mo, .ref mg, .ref mm, .ref mt, .int mdn, .int mun, .ref mn, .int mtk, .ref me, .ref mq, .int msv, .ref mwo, .ref md, .ref mf, .ref mr])), (ma, .inl (cI, 40, .inl fa)), (mo, .inl (cI, 81, .inl fo)), (mg, .inl (cI, 81, .inl fr)), (mk, .inl (cI, 40, .inl fk))]) (fun u => [(0, .ref mx), (1, .int p1), (2, .int p2), (3, .int p3)]) (fun u => []) (fun u => ¬ ((fk p1.toNatClampNeg) = 2 ∧ 0 < mre.toInt ∧ mre.toInt < p3.toInt)) (D := D) (A := A) (H0 := s.heap) (fun u hI H locs hP hD hS ls hl => ?_) (fun j_47 => ?_)
    · have hP : va_P D vwCl [(mx, .inr (11, [.int ml, .int mw, .ref ms, .int mgl, .int mhd, .int mre, .int mag, .int mkt, .int mho, .int mpc, .int msd, .int mki, .ref mk, .ref ma, .ref mo, .ref mg, .ref mm, .ref mt, .int mdn, .int mun, .ref mn, .int mtk, .ref me, .ref mq, .int msv, .ref mwo, .ref md, .ref mf, .ref mr])), (ma, .inl (cI, 40, .inl fa)), (mo, .inl (cI, 81, .inl fo)), (mg, .inl (cI, 81, .inl fr)), (mk, .inl (cI, 40, .inl fk))] H := hP
      have hD : va_D A [(mx, .inr (11, [.int ml, .int mw, .ref ms, .int mgl, .int mhd, .int mre, .int mag, .int mkt, .int mho, .int mpc, .int msd, .int mki, .ref mk, .ref ma, .ref mo, .ref mg, .ref mm, .ref mt, .int mdn, .int mun, .ref mn, .int mtk, .ref me, .ref mq, .int msv, .ref mwo, .ref md, .ref mf, .ref mr])), (ma, .inl (cI, 40, .inl fa)), (mo, .inl (cI, 81, .inl fo)), (mg, .inl (cI, 81, .inl fr)), (mk, .inl (cI, 40, .inl fk))] := hD
      have hl : lv_has ls 6 [(0, .ref mx), (1, .int p1), (2, .int p2), (3, .int p3)] := hl
      have hI : ¬ ((fk p1.toNatClampNeg) = 2 ∧ 0 < mre.toInt ∧ mre.toInt < p3.toInt) := hI
      have h7 := hI
      have hok : p3.toInt ≤ kt_rom (fa p1.toNatClampNeg).toInt mw.toInt ml.toInt p2.toInt := by omega
      refine lv_iconst (v := 1) hx hb dX11_bar_47 (by decide) ?_
      refine lv_istore (lv' := [(4, .int 1), (0, .ref mx), (1, .int p1), (2, .int p2), (3, .int p3)]) hx hb dX11_bar_48 hl (by decide) rfl (fun ls hl => ?_)
      refine kt_loop (σ := Nat) 50 6 (fun u => [(mx, .inr (11, [.int ml, .int mw, .ref ms, .int mgl, .int mhd, .int mre, .int mag, .int mkt, .int mho, .int mpc, .int msd, .int mki, .ref mk, .ref ma, .ref mo, .ref mg, .ref mm, .ref mt, .int mdn, .int mun, .ref mn, .int mtk, .ref me, .ref mq, .int msv, .ref mwo, .ref md, .ref mf, .ref mr])), (ma, .inl (cI, 40, .inl fa)), (mo, .inl (cI, 81, .inl fo)), (mg, .inl (cI, 81, .inl fr)), (mk, .inl (cI, 40, .inl fk))]) (fun u => [(4, .int (nI u)), (0, .ref mx), (1, .int p1), (2, .int p2), (3, .int p3)]) (fun n u => (1 ≤ u ∧ u ≤ 9 ∧ 9 < u + n ∧ (u : Int) ≤ p3.toInt + 1) ∧ kt_pth fo fr (fk p1.toNatClampNeg) (fa p1.toNatClampNeg).toInt mw.toInt ml.toInt p2.toInt (u - 1) = 0) (fun u h => by omega) (fun n_50 ih_50 u hI H locs hP hD hS ls hl => ?_) (9) 1 (by show (1 ≤ 1 ∧ 1 ≤ 9 ∧ 9 < 1 + 9 ∧ (1 : Int) ≤ p3.toInt + 1) ∧ kt_pth fo fr (fk p1.toNatClampNeg) (fa p1.toNatClampNeg).toInt mw.toInt ml.toInt p2.toInt (1 - 1) = 0; exact ⟨⟨by decide, by decide, by decide, by omega⟩, rfl⟩) hP hD hS (lv_sub hl [0, 1, 2, 3, 4] rfl)
      obtain ⟨k, rfl⟩ : ∃ z, z = u := ⟨_, rfl⟩
      have hP : va_P D vwCl [(mx, .inr (11, [.int ml, .int mw, .ref ms, .int mgl, .int mhd, .int mre, .int mag, .int mkt, .int mho, .int mpc, .int msd, .int mki, .ref mk, .ref ma, .ref mo, .ref mg, .ref mm, .ref mt, .int mdn, .int mun, .ref mn, .int mtk, .ref me, .ref mq, .int msv, .ref mwo, .ref md, .ref mf, .ref mr])), (ma, .inl (cI, 40, .inl fa)), (mo, .inl (cI, 81, .inl fo)), (mg, .inl (cI, 81, .inl fr)), (mk, .inl (cI, 40, .inl fk))] H := hP
      have hD : va_D A [(mx, .inr (11, [.int ml, .int mw, .ref ms, .int mgl, .int mhd, .int mre, .int mag, .int mkt, .int mho, .int mpc, .int msd, .int mki, .ref mk, .ref ma, .ref mo, .ref mg, .ref mm, .ref mt, .int mdn, .int mun, .ref mn, .int mtk, .ref me, .ref mq, .int msv, .ref mwo, .ref md, .ref mf, .ref mr])), (ma, .inl (cI, 40, .inl fa)), (mo, .inl (cI, 81, .inl fo)), (mg, .inl (cI, 81, .inl fr)), (mk, .inl (cI, 40, .inl fk))] := hD
      have hl : lv_has ls 6 [(4, .int (nI k)), (0, .ref mx), (1, .int p1), (2, .int p2), (3, .int p3)] := hl
      have hI : (1 ≤ k ∧ k ≤ 9 ∧ 9 < k + (n_50 + 1) ∧ (k : Int) ≤ p3.toInt + 1) ∧ kt_pth fo fr (fk p1.toNatClampNeg) (fa p1.toNatClampNeg).toInt mw.toInt ml.toInt p2.toInt (k - 1) = 0 := hI
      obtain ⟨hkb, hp0⟩ := hI
      have hk0 := kt_nI (n := k) (by omega)
      refine lv_iload hx hb dX11_bar_50 (lv_at hl 0 rfl) ?_
      refine lv_iload_n hx hb dX11_bar_52 rfl (lv_at hl 4 rfl) ?_
      refine lv_icmp_gt (tgt := 104) hx hb dX11_bar_53 (by decide) (fun c_53 => ?_) (fun c_53 => ?_)
      · have d_53 := c_53
        simp only [kt_lt, kt_le, kt_eq, kt_c0, kt_c1, kt_c2, kt_c3, kt_c4, kt_c8, kt_c9, kt_cm1, kt_c81, kt_c40, kt_c7, kt_c5, kt_c6, kt_c512, kt_c10, kt_c10000] at d_53
        have hpe : kt_pth fo fr (fk p1.toNatClampNeg) (fa p1.toNatClampNeg).toInt mw.toInt ml.toInt p2.toInt p3.toInt.toNat = 0 := by rw [show p3.toInt.toNat = k - 1 by omega]; exact hp0
        refine lv_iconst (v := 0) hx hb dX11_bar_104 (by decide) ?_
        exact kt_ri () hx hb hr hlk hS dX11_bar_105 hP hD (by show (0 : Int32).toInt = kt_bar fo fr (fk p1.toNatClampNeg) mre.toInt (fa p1.toNatClampNeg).toInt mw.toInt ml.toInt p2.toInt p3.toInt; first | (rw [hbc.2.2 hok h7, hpe]; decide) | (rw [hbc.2.2 hok h7, hpn, hpk]; decide) | (rw [hbc.2.1 (by omega) ⟨ea_24.symm.trans c_26, by omega, by omega⟩]; decide) | (rw [hbc.1 (by omega)]; decide))
      · have d_53 := c_53
        simp only [kt_lt, kt_le, kt_eq, kt_c0, kt_c1, kt_c2, kt_c3, kt_c4, kt_c8, kt_c9, kt_cm1, kt_c81, kt_c40, kt_c7, kt_c5, kt_c6, kt_c512, kt_c10, kt_c10000] at d_53
        refine lv_aload_n hx hb dX11_bar_56 rfl (lv_at hl 1 rfl) ?_
        refine lv_aload_n hx hb dX11_bar_57 rfl (lv_at hl 1 rfl) ?_
        refine va_get (D := D) (ci := 11) (C := RX11) (T := TX11) (N := 29) hx hb hts iw_X11_bar_X11 hown hK hP 0 rfl rfl 13 (by decide) (hts (.fieldLink RX11 30 "KingTableModel" "at" "[I") (List.mem_cons_of_mem _ (List.mem_append_left _ (List.Mem.head _)))) (fun _ h9 => h9) rfl dX11_bar_58 ?_
        refine lv_iload_n hx hb dX11_bar_61 rfl (lv_at hl 2 rfl) ?_
        have hi_3 : vp_in p1 40 := by exact kt_in (by omega) (by omega)
        refine va_iald hx hb hK hP 1 0 rfl rfl hi_3 dX11_bar_62 ?_
        refine lv_topi (fun a_62 ea_62 => ?_)
        have ra_62 := hfa.get (kt_in (x := p1) (n := P_) (by omega) (by omega))
        rw [← ea_62] at ra_62
        refine lv_iload_n hx hb dX11_bar_63 rfl (lv_at hl 3 rfl) ?_
        refine lv_iload hx hb dX11_bar_64 (lv_at hl 0 rfl) ?_
        refine kt_pi (wc := [(mx, .inr (11, [.int ml, .int mw, .ref ms, .int mgl, .int mhd, .int mre, .int mag, .int mkt, .int mho, .int mpc, .int msd, .int mki, .ref mk, .ref ma, .ref mo, .ref mg, .ref mm, .ref mt, .int mdn, .int mun, .ref mn, .int mtk, .ref me, .ref mq, .int msv, .ref mwo, .ref md, .ref mf, .ref mr]))]) [0] hP hD hS hA rfl (by decide) (fun hPc hDc => va_runV (As := [.int a_62, .int p2, .int (nI k)]) (rest := []) ⟨hx, hb, hml, hown, hts⟩ (c_X11_alongE l D cI cZ cB H.size mx ms mk ma mo mg mm mt mn me mq mwo md mf mr ml mw mgl mhd mre mag mkt mho mpc msd mki mdn mun mtk msv a_62 p2 (nI k) hml_ hmw (by rw [ea_62]; omega) (by omega)) (cwV 3 hts gX11_bar_X11_along rfl rfl rfl (by decide +kernel) ⟨Nat.le_of_ble_eq_true rfl, Nat.le_of_ble_eq_true rfl⟩) (kt_preV hN hK hPc hDc 0 (ci := 11) (q := (RX11, TX11, 29)) rfl rfl) rfl rfl hl.1 rfl (lv_room (Nat.le_of_ble_eq_true rfl)) dX11_bar_66 ⟨Nat.le_of_ble_eq_true rfl, Nat.le_of_ble_eq_true rfl⟩) (fun r_66 _ H locs hw_66 hP hS => ?_)
        rw [ea_62, hk0] at hw_66
        have h66 := har (k : Int) (by omega)
        rw [← hw_66] at h66
        have hps0 := kt_pth_s hp0
        rw [show (((k - 1 : Nat)) : Int) + 1 = (k : Int) by omega, ← hw_66, show k - 1 + 1 = k by omega] at hps0
        refine lv_istore (lv' := [(5, .int r_66), (4, .int (nI k)), (0, .ref mx), (1, .int p1), (2, .int p2), (3, .int p3)]) hx hb dX11_bar_69 hl (by decide) rfl (fun ls hl => ?_)
        refine lv_aload_n hx hb dX11_bar_71 rfl (lv_at hl 2 rfl) ?_
        refine va_get (D := D) (ci := 11) (C := RX11) (T := TX11) (N := 29) hx hb hts iw_X11_bar_X11 hown hK hP 0 rfl rfl 14 (by decide) (hts (.fieldLink RX11 33 "KingTableModel" "on" "[I") (List.mem_cons_of_mem _ (List.mem_append_left _ (List.mem_cons_of_mem _ (List.mem_cons_of_mem _ (List.mem_cons_of_mem _ (List.Mem.head _))))))) (fun _ h9 => h9) rfl dX11_bar_72 ?_
        refine lv_iload hx hb dX11_bar_75 (lv_at hl 0 rfl) ?_
        have hi_4 : vp_in r_66 81 := by exact kt_in (by omega) (by omega)
        refine va_iald hx hb hK hP 2 0 rfl rfl hi_4 dX11_bar_77 ?_
        refine lv_topi (fun a_77 ea_77 => ?_)
        have ra_77 := hfo.get hi_4
        rw [← ea_77] at ra_77
        refine lv_iconst (v := (-1)) hx hb dX11_bar_78 (by decide) ?_
        refine lv_icmp_eq (tgt := 85) hx hb dX11_bar_79 (by decide) (fun c_79 => ?_) (fun c_79 => ?_)
        · have d_79 := c_79
          simp only [kt_lt, kt_le, kt_eq, kt_c0, kt_c1, kt_c2, kt_c3, kt_c4, kt_c8, kt_c9, kt_cm1, kt_c81, kt_c40, kt_c7, kt_c5, kt_c6, kt_c512, kt_c10, kt_c10000] at d_79
          have hh : fo r_66.toInt.toNat = -1 := ea_77.symm.trans c_79
          refine lv_aload_n hx hb dX11_bar_85 rfl (lv_at hl 2 rfl) ?_
          refine lv_iload hx hb dX11_bar_86 (lv_at hl 0 rfl) ?_
          refine lv_iload_n hx hb dX11_bar_88 rfl (lv_at hl 3 rfl) ?_
          refine kt_pi (wc := [(mx, .inr (11, [.int ml, .int mw, .ref ms, .int mgl, .int mhd, .int mre, .int mag, .int mkt, .int mho, .int mpc, .int msd, .int mki, .ref mk, .ref ma, .ref mo, .ref mg, .ref mm, .ref mt, .int mdn, .int mun, .ref mn, .int mtk, .ref me, .ref mq, .int msv, .ref mwo, .ref md, .ref mf, .ref mr])), (mg, .inl (cI, 81, .inl fr)), (mk, .inl (cI, 40, .inl fk))]) [0, 3, 4] hP hD hS hA rfl (by decide) (fun hPc hDc => va_runV (As := [.int r_66, .int p1]) (rest := []) ⟨hx, hb, hml, hown, hts⟩ (c_X11_bearsE l D cI cZ cB H.size mx ms mk ma mo mg mm mt mn me mq mwo md mf mr ml mw mgl mhd mre mag mkt mho mpc msd mki mdn mun mtk msv fr fk r_66 p1 (by omega) (by omega)) (cwV 2 hts gX11_bar_X11_bears rfl rfl rfl (by decide +kernel) ⟨Nat.le_of_ble_eq_true rfl, Nat.le_of_ble_eq_true rfl⟩) (kt_preV hN hK hPc hDc 0 (ci := 11) (q := (RX11, TX11, 29)) rfl rfl) rfl rfl hl.1 rfl (lv_room (Nat.le_of_ble_eq_true rfl)) dX11_bar_89 ⟨Nat.le_of_ble_eq_true rfl, Nat.le_of_ble_eq_true rfl⟩) (fun r_89 _ H locs hw_89 hP hS => ?_)
          
          refine lv_if_ne (tgt := 98) hx hb dX11_bar_92 (by decide) (fun c_92 => ?_) (fun c_92 => ?_)
          · have d_92 := c_92
            simp only [kt_lt, kt_le, kt_eq, kt_c0, kt_c1, kt_c2, kt_c3, kt_c4, kt_c8, kt_c9, kt_cm1, kt_c81, kt_c40, kt_c7, kt_c5, kt_c6, kt_c512, kt_c10, kt_c10000] at d_92
            refine lv_iinc (v := nI (k + 1)) (lv' := [(4, .int (nI (k + 1))), (5, .int r_66), (0, .ref mx), (1, .int p1), (2, .int p2), (3, .int p3)]) hx hb dX11_bar_98 hl (k := 1) rfl (nI_1 _) (by decide) rfl (fun ls hl => ?_)
            refine lv_goto (tgt := 50) hx hb dX11_bar_101 (by decide) ?_
            exact ih_50 (k + 1) (by show (1 ≤ (k + 1) ∧ (k + 1) ≤ 9 ∧ 9 < (k + 1) + n_50 ∧ ((k + 1) : Int) ≤ p3.toInt + 1) ∧ kt_pth fo fr (fk p1.toNatClampNeg) (fa p1.toNatClampNeg).toInt mw.toInt ml.toInt p2.toInt ((k + 1) - 1) = 0; exact ⟨by omega, by rw [Nat.add_sub_cancel]; exact hps0.2.2 hh (hw_89.t c_92)⟩) H _ hP hD hS ls (lv_sub hl [0, 2, 3, 4, 5] rfl)
          · have d_92 := c_92
            simp only [kt_lt, kt_le, kt_eq, kt_c0, kt_c1, kt_c2, kt_c3, kt_c4, kt_c8, kt_c9, kt_cm1, kt_c81, kt_c40, kt_c7, kt_c5, kt_c6, kt_c512, kt_c10, kt_c10000] at d_92
            have hpk : kt_pth fo fr (fk p1.toNatClampNeg) (fa p1.toNatClampNeg).toInt mw.toInt ml.toInt p2.toInt k = 9 := hps0.2.1 hh (hw_89.f c_92)
            have hpn := kt_pth_m (fo := fo) (fr := fr) (kp := (fk p1.toNatClampNeg)) (x := (fa p1.toNatClampNeg).toInt) (w := mw.toInt) (L := ml.toInt) (a := p2.toInt) (n := k) (m := p3.toInt.toNat) (by rw [hpk]; decide) (by omega)
            refine lv_bipush (v := 9) hx hb dX11_bar_95 (by decide) ?_
            exact kt_ri () hx hb hr hlk hS dX11_bar_97 hP hD (by show (9 : Int32).toInt = kt_bar fo fr (fk p1.toNatClampNeg) mre.toInt (fa p1.toNatClampNeg).toInt mw.toInt ml.toInt p2.toInt p3.toInt; first | (rw [hbc.2.2 hok h7, hpe]; decide) | (rw [hbc.2.2 hok h7, hpn, hpk]; decide) | (rw [hbc.2.1 (by omega) ⟨ea_24.symm.trans c_26, by omega, by omega⟩]; decide) | (rw [hbc.1 (by omega)]; decide))
        · have d_79 := c_79
          simp only [kt_lt, kt_le, kt_eq, kt_c0, kt_c1, kt_c2, kt_c3, kt_c4, kt_c8, kt_c9, kt_cm1, kt_c81, kt_c40, kt_c7, kt_c5, kt_c6, kt_c512, kt_c10, kt_c10000] at d_79
          have hpk : kt_pth fo fr (fk p1.toNatClampNeg) (fa p1.toNatClampNeg).toInt mw.toInt ml.toInt p2.toInt k = 8 := hps0.1 (fun h => c_79 (ea_77.trans h))
          have hpn := kt_pth_m (fo := fo) (fr := fr) (kp := (fk p1.toNatClampNeg)) (x := (fa p1.toNatClampNeg).toInt) (w := mw.toInt) (L := ml.toInt) (a := p2.toInt) (n := k) (m := p3.toInt.toNat) (by rw [hpk]; decide) (by omega)
          refine lv_bipush (v := 8) hx hb dX11_bar_82 (by decide) ?_
          exact kt_ri () hx hb hr hlk hS dX11_bar_84 hP hD (by show (8 : Int32).toInt = kt_bar fo fr (fk p1.toNatClampNeg) mre.toInt (fa p1.toNatClampNeg).toInt mw.toInt ml.toInt p2.toInt p3.toInt; first | (rw [hbc.2.2 hok h7, hpe]; decide) | (rw [hbc.2.2 hok h7, hpn, hpk]; decide) | (rw [hbc.2.1 (by omega) ⟨ea_24.symm.trans c_26, by omega, by omega⟩]; decide) | (rw [hbc.1 (by omega)]; decide))
    refine lv_icmp_ne (tgt := 47) hx hb dX11_bar_26 (by decide) (fun c_26 => ?_) (fun c_26 => ?_)
    · have d_26 := c_26
      simp only [kt_lt, kt_le, kt_eq, kt_c0, kt_c1, kt_c2, kt_c3, kt_c4, kt_c8, kt_c9, kt_cm1, kt_c81, kt_c40, kt_c7, kt_c5, kt_c6, kt_c512, kt_c10, kt_c10000] at d_26
      exact j_47 () (by show ¬ ((fk p1.toNatClampNeg) = 2 ∧ 0 < mre.toInt ∧ mre.toInt < p3.toInt); first | exact fun h => c_26 (ea_24.trans h.1) | exact fun h => by omega) H _ hP hD hS ls (lv_sub hl [0, 1, 2, 3] rfl)
    · have d_26 := c_26
      simp only [kt_lt, kt_le, kt_eq, kt_c0, kt_c1, kt_c2, kt_c3, kt_c4, kt_c8, kt_c9, kt_cm1, kt_c81, kt_c40, kt_c7, kt_c5, kt_c6, kt_c512, kt_c10, kt_c10000] at d_26
      refine lv_aload_n hx hb dX11_bar_29 rfl (lv_at hl 0 rfl) ?_
      refine va_get (D := D) (ci := 11) (C := RX11) (T := TX11) (N := 29) hx hb hts iw_X11_bar_X11 hown hK hP 0 rfl rfl 5 (by decide) (hts (.fieldLink RX11 82 "KingTableModel" "reach" "I") (List.mem_cons_of_mem _ (List.mem_append_left _ (List.mem_cons_of_mem _ (List.mem_cons_of_mem _ (List.Mem.head _)))))) (fun _ h9 => h9) rfl dX11_bar_30 ?_
      refine lv_if_le (tgt := 47) hx hb dX11_bar_33 (by decide) (fun c_33 => ?_) (fun c_33 => ?_)
      · have d_33 := c_33
        simp only [kt_lt, kt_le, kt_eq, kt_c0, kt_c1, kt_c2, kt_c3, kt_c4, kt_c8, kt_c9, kt_cm1, kt_c81, kt_c40, kt_c7, kt_c5, kt_c6, kt_c512, kt_c10, kt_c10000] at d_33
        exact j_47 () (by show ¬ ((fk p1.toNatClampNeg) = 2 ∧ 0 < mre.toInt ∧ mre.toInt < p3.toInt); first | exact fun h => c_26 (ea_24.trans h.1) | exact fun h => by omega) H _ hP hD hS ls (lv_sub hl [0, 1, 2, 3] rfl)
      · have d_33 := c_33
        simp only [kt_lt, kt_le, kt_eq, kt_c0, kt_c1, kt_c2, kt_c3, kt_c4, kt_c8, kt_c9, kt_cm1, kt_c81, kt_c40, kt_c7, kt_c5, kt_c6, kt_c512, kt_c10, kt_c10000] at d_33
        refine lv_iload_n hx hb dX11_bar_36 rfl (lv_at hl 3 rfl) ?_
        refine lv_aload_n hx hb dX11_bar_37 rfl (lv_at hl 0 rfl) ?_
        refine va_get (D := D) (ci := 11) (C := RX11) (T := TX11) (N := 29) hx hb hts iw_X11_bar_X11 hown hK hP 0 rfl rfl 5 (by decide) (hts (.fieldLink RX11 82 "KingTableModel" "reach" "I") (List.mem_cons_of_mem _ (List.mem_append_left _ (List.mem_cons_of_mem _ (List.mem_cons_of_mem _ (List.Mem.head _)))))) (fun _ h9 => h9) rfl dX11_bar_38 ?_
        refine lv_icmp_le (tgt := 47) hx hb dX11_bar_41 (by decide) (fun c_41 => ?_) (fun c_41 => ?_)
        · have d_41 := c_41
          simp only [kt_lt, kt_le, kt_eq, kt_c0, kt_c1, kt_c2, kt_c3, kt_c4, kt_c8, kt_c9, kt_cm1, kt_c81, kt_c40, kt_c7, kt_c5, kt_c6, kt_c512, kt_c10, kt_c10000] at d_41
          exact j_47 () (by show ¬ ((fk p1.toNatClampNeg) = 2 ∧ 0 < mre.toInt ∧ mre.toInt < p3.toInt); first | exact fun h => c_26 (ea_24.trans h.1) | exact fun h => by omega) H _ hP hD hS ls (lv_sub hl [0, 1, 2, 3] rfl)
        · have d_41 := c_41
          simp only [kt_lt, kt_le, kt_eq, kt_c0, kt_c1, kt_c2, kt_c3, kt_c4, kt_c8, kt_c9, kt_cm1, kt_c81, kt_c40, kt_c7, kt_c5, kt_c6, kt_c512, kt_c10, kt_c10000] at d_41
          refine lv_bipush (v := 7) hx hb dX11_bar_44 (by decide) ?_
          exact kt_ri () hx hb hr hlk hS dX11_bar_46 hP hD (by show (7 : Int32).toInt = kt_bar fo fr (fk p1.toNatClampNeg) mre.toInt (fa p1.toNatClampNeg).toInt mw.toInt ml.toInt p2.toInt p3.toInt; first | (rw [hbc.2.2 hok h7, hpe]; decide) | (rw [hbc.2.2 hok h7, hpn, hpk]; decide) | (rw [hbc.2.1 (by omega) ⟨ea_24.symm.trans c_26, by omega, by omega⟩]; decide) | (rw [hbc.1 (by omega)]; decide))
  · have d_13 := c_13
    simp only [kt_lt, kt_le, kt_eq, kt_c0, kt_c1, kt_c2, kt_c3, kt_c4, kt_c8, kt_c9, kt_cm1, kt_c81, kt_c40, kt_c7, kt_c5, kt_c6, kt_c512, kt_c10, kt_c10000] at d_13
    refine lv_bipush (v := 6) hx hb dX11_bar_16 (by decide) ?_
    exact kt_ri () hx hb hr hlk hS dX11_bar_18 hP hD (by show (6 : Int32).toInt = kt_bar fo fr (fk p1.toNatClampNeg) mre.toInt (fa p1.toNatClampNeg).toInt mw.toInt ml.toInt p2.toInt p3.toInt; first | (rw [hbc.2.2 hok h7, hpe]; decide) | (rw [hbc.2.2 hok h7, hpn, hpk]; decide) | (rw [hbc.2.1 (by omega) ⟨ea_24.symm.trans c_26, by omega, by omega⟩]; decide) | (rw [hbc.1 (by omega)]; decide))

set_option maxHeartbeats 4000000 in
set_option maxRecDepth 100000 in
theorem c_X11_movesOfX (l : Launch) (D : va_G) (cI cZ cB : ClassId) (sz : Nat) (mx : Nat) (ms : Nat) (mk : Nat) (ma : Nat) (mo : Nat) (mg : Nat) (mm : Nat) (mt : Nat) (mn : Nat) (me : Nat) (mq : Nat) (mwo : Nat) (md : Nat) (mf : Nat) (mr : Nat) (ml : Int32) (mw : Int32) (mgl : Int32) (mhd : Int32) (mre : Int32) (mag : Int32) (mkt : Int32) (mho : Int32) (mpc : Int32) (msd : Int32) (mki : Int32) (mdn : Int32) (mun : Int32) (mtk : Int32) (msv : Int32) (P_ : Nat) (fa : Nat → Int32) (fo : Nat → Int32) (fr : Nat → Int32) (fk : Nat → Int32) (p1 : Int32) (hml_ : 2 ≤ ml.toInt ∧ ml.toInt ≤ 9) (hmw : 2 ≤ mw.toInt ∧ mw.toInt ≤ 9) (hpc : (P_ : Int) = mpc.toInt ∧ P_ ≤ 40) (hfa : kt_r fa P_ (-1) (ml.toInt * mw.toInt - 1)) (hfo : kt_r fo 81 (-1) ((P_ : Int) - 1)) (hp1 : 0 ≤ p1.toInt ∧ p1.toInt < (P_ : Int)) : kt_Mi l yX11_movesOf wsX11_movesOf { frames := 2, cells := 0, slots := 0, locals := 51 } D (kt_ty cI cZ cB) [.ref mx, .int p1] sz [(mx, .inr (11, [.int ml, .int mw, .ref ms, .int mgl, .int mhd, .int mre, .int mag, .int mkt, .int mho, .int mpc, .int msd, .int mki, .ref mk, .ref ma, .ref mo, .ref mg, .ref mm, .ref mt, .int mdn, .int mun, .ref mn, .int mtk, .ref me, .ref mq, .int msv, .ref mwo, .ref md, .ref mf, .ref mr])), (ma, .inl (cI, 40, .inl fa)), (mo, .inl (cI, 81, .inl fo)), (mg, .inl (cI, 81, .inl fr)), (mk, .inl (cI, 40, .inl fk))] (fun (r : Int32) (u : Unit) => (fa p1.toNatClampNeg = -1 → r.toInt = 0) ∧ (¬ fa p1.toNatClampNeg = -1 → r.toInt = (kt_ms fo fr (fk p1.toNatClampNeg) mre.toInt (fa p1.toNatClampNeg).toInt mw.toInt ml.toInt 4 : Int))) (fun (u : Unit) => [(mx, .inr (11, [.int ml, .int mw, .ref ms, .int mgl, .int mhd, .int mre, .int mag, .int mkt, .int mho, .int mpc, .int msd, .int mki, .ref mk, .ref ma, .ref mo, .ref mg, .ref mm, .ref mt, .int mdn, .int mun, .ref mn, .int mtk, .ref me, .ref mq, .int msv, .ref mwo, .ref md, .ref mf, .ref mr])), (ma, .inl (cI, 40, .inl fa)), (mo, .inl (cI, 81, .inl fo)), (mg, .inl (cI, 81, .inl fr)), (mk, .inl (cI, 40, .inl fk))]) 0 0 := by
  refine kt_Mi.of (cc := cX11_movesOf) (maxL := 5) (ret := some .int) (by decide) rfl (Nat.le_of_ble_eq_true rfl) ?_
  intro p e s m below meth c A ls H hAt hP hD hS hl
  obtain ⟨hx, hb, hr, hml, hown, hts, hN, hK, hlk, hnm, hA⟩ := hAt
  have hl : lv_has ls 5 [(0, .ref mx), (1, .int p1)] := hl
  have hown : s.vm.findClass RX11 = some m.cls := hown
  have hsb := kt_mulb hml_ hmw
  have hfp := hfa.get (kt_in (x := p1) (n := P_) (by omega) (by omega))
  refine lv_iconst (v := 0) hx hb dX11_movesOf_0 (by decide) ?_
  refine lv_istore_n (lv' := [(2, .int 0), (0, .ref mx), (1, .int p1)]) hx hb dX11_movesOf_1 rfl hl (by decide) rfl (fun ls hl => ?_)
  refine lv_iconst (v := 0) hx hb dX11_movesOf_2 (by decide) ?_
  refine lv_istore_n (lv' := [(3, .int 0), (2, .int 0), (0, .ref mx), (1, .int p1)]) hx hb dX11_movesOf_3 rfl hl (by decide) rfl (fun ls hl => ?_)
  refine kt_loop (σ := Nat × Int32) 4 5 (fun u => [(mx, .inr (11, [.int ml, .int mw, .ref ms, .int mgl, .int mhd, .int mre, .int mag, .int mkt, .int mho, .int mpc, .int msd, .int mki, .ref mk, .ref ma, .ref mo, .ref mg, .ref mm, .ref mt, .int mdn, .int mun, .ref mn, .int mtk, .ref me, .ref mq, .int msv, .ref mwo, .ref md, .ref mf, .ref mr])), (ma, .inl (cI, 40, .inl fa)), (mo, .inl (cI, 81, .inl fo)), (mg, .inl (cI, 81, .inl fr)), (mk, .inl (cI, 40, .inl fk))]) (fun u => [(3, .int (nI u.1)), (2, .int u.2), (0, .ref mx), (1, .int p1)]) (fun n u => (u.1 ≤ 4 ∧ 4 < u.1 + n) ∧ (0 ≤ u.2.toInt ∧ u.2.toInt ≤ 8 * (u.1 : Int)) ∧ (fa p1.toNatClampNeg = -1 → u.2.toInt = 0) ∧ (¬ fa p1.toNatClampNeg = -1 → u.2.toInt = (kt_ms fo fr (fk p1.toNatClampNeg) mre.toInt (fa p1.toNatClampNeg).toInt mw.toInt ml.toInt u.1 : Int))) (fun u h => by omega) (fun n_4 ih_4 u hI H locs hP hD hS ls hl => ?_) (5) (0, (0 : Int32)) (by show (0 ≤ 4 ∧ 4 < 0 + 5) ∧ (0 ≤ (0 : Int32).toInt ∧ (0 : Int32).toInt ≤ 8 * (0 : Int)) ∧ (fa p1.toNatClampNeg = -1 → (0 : Int32).toInt = 0) ∧ (¬ fa p1.toNatClampNeg = -1 → (0 : Int32).toInt = (kt_ms fo fr (fk p1.toNatClampNeg) mre.toInt (fa p1.toNatClampNeg).toInt mw.toInt ml.toInt 0 : Int)); exact ⟨by decide, by decide, fun _ => by decide, fun _ => rfl⟩) hP hD hS (lv_sub hl [0, 1, 2, 3] rfl)
  obtain ⟨w, v⟩ := u
  have hP : va_P D vwCl [(mx, .inr (11, [.int ml, .int mw, .ref ms, .int mgl, .int mhd, .int mre, .int mag, .int mkt, .int mho, .int mpc, .int msd, .int mki, .ref mk, .ref ma, .ref mo, .ref mg, .ref mm, .ref mt, .int mdn, .int mun, .ref mn, .int mtk, .ref me, .ref mq, .int msv, .ref mwo, .ref md, .ref mf, .ref mr])), (ma, .inl (cI, 40, .inl fa)), (mo, .inl (cI, 81, .inl fo)), (mg, .inl (cI, 81, .inl fr)), (mk, .inl (cI, 40, .inl fk))] H := hP
  have hD : va_D A [(mx, .inr (11, [.int ml, .int mw, .ref ms, .int mgl, .int mhd, .int mre, .int mag, .int mkt, .int mho, .int mpc, .int msd, .int mki, .ref mk, .ref ma, .ref mo, .ref mg, .ref mm, .ref mt, .int mdn, .int mun, .ref mn, .int mtk, .ref me, .ref mq, .int msv, .ref mwo, .ref md, .ref mf, .ref mr])), (ma, .inl (cI, 40, .inl fa)), (mo, .inl (cI, 81, .inl fo)), (mg, .inl (cI, 81, .inl fr)), (mk, .inl (cI, 40, .inl fk))] := hD
  have hl : lv_has ls 5 [(3, .int (nI w)), (2, .int v), (0, .ref mx), (1, .int p1)] := hl
  have hI : (w ≤ 4 ∧ 4 < w + (n_4 + 1)) ∧ (0 ≤ v.toInt ∧ v.toInt ≤ 8 * (w : Int)) ∧ (fa p1.toNatClampNeg = -1 → v.toInt = 0) ∧ (¬ fa p1.toNatClampNeg = -1 → v.toInt = (kt_ms fo fr (fk p1.toNatClampNeg) mre.toInt (fa p1.toNatClampNeg).toInt mw.toInt ml.toInt w : Int)) := hI
  obtain ⟨hwb, hvr, hv1, hv2⟩ := hI
  have hw0 := kt_nI (n := w) (by omega)
  refine lv_iload_n hx hb dX11_movesOf_4 rfl (lv_at hl 0 rfl) ?_
  refine lv_iconst (v := 4) hx hb dX11_movesOf_5 (by decide) ?_
  refine lv_icmp_ge (tgt := 60) hx hb dX11_movesOf_6 (by decide) (fun c_6 => ?_) (fun c_6 => ?_)
  · have d_6 := c_6
    simp only [kt_lt, kt_le, kt_eq, kt_c0, kt_c1, kt_c2, kt_c3, kt_c4, kt_c8, kt_c9, kt_cm1, kt_c81, kt_c40, kt_c7, kt_c5, kt_c6, kt_c512, kt_c10, kt_c10000] at d_6
    refine lv_iload_n hx hb dX11_movesOf_60 rfl (lv_at hl 1 rfl) ?_
    exact kt_ri () hx hb hr hlk hS dX11_movesOf_61 hP hD (by show (fa p1.toNatClampNeg = -1 → v.toInt = 0) ∧ (¬ fa p1.toNatClampNeg = -1 → v.toInt = (kt_ms fo fr (fk p1.toNatClampNeg) mre.toInt (fa p1.toNatClampNeg).toInt mw.toInt ml.toInt 4 : Int)); first | (rw [show (4 : Nat) = w by omega]; exact ⟨hv1, hv2⟩) | exact ⟨hv1, fun h => absurd (ea_14.symm.trans c_16) h⟩)
  · have d_6 := c_6
    simp only [kt_lt, kt_le, kt_eq, kt_c0, kt_c1, kt_c2, kt_c3, kt_c4, kt_c8, kt_c9, kt_cm1, kt_c81, kt_c40, kt_c7, kt_c5, kt_c6, kt_c512, kt_c10, kt_c10000] at d_6
    refine lv_aload_n hx hb dX11_movesOf_9 rfl (lv_at hl 2 rfl) ?_
    refine va_get (D := D) (ci := 11) (C := RX11) (T := TX11) (N := 29) hx hb hts iw_X11_movesOf_X11 hown hK hP 0 rfl rfl 13 (by decide) (hts (.fieldLink RX11 30 "KingTableModel" "at" "[I") (List.mem_cons_of_mem _ (List.mem_append_left _ (List.Mem.head _)))) (fun _ h9 => h9) rfl dX11_movesOf_10 ?_
    refine lv_iload_n hx hb dX11_movesOf_13 rfl (lv_at hl 3 rfl) ?_
    have hi_1 : vp_in p1 40 := by exact kt_in (by omega) (by omega)
    refine va_iald hx hb hK hP 1 0 rfl rfl hi_1 dX11_movesOf_14 ?_
    refine lv_topi (fun a_14 ea_14 => ?_)
    have ra_14 := hfa.get (kt_in (x := p1) (n := P_) (by omega) (by omega))
    rw [← ea_14] at ra_14
    refine lv_iconst (v := (-1)) hx hb dX11_movesOf_15 (by decide) ?_
    refine lv_icmp_eq (tgt := 60) hx hb dX11_movesOf_16 (by decide) (fun c_16 => ?_) (fun c_16 => ?_)
    · have d_16 := c_16
      simp only [kt_lt, kt_le, kt_eq, kt_c0, kt_c1, kt_c2, kt_c3, kt_c4, kt_c8, kt_c9, kt_cm1, kt_c81, kt_c40, kt_c7, kt_c5, kt_c6, kt_c512, kt_c10, kt_c10000] at d_16
      refine lv_iload_n hx hb dX11_movesOf_60 rfl (lv_at hl 1 rfl) ?_
      exact kt_ri () hx hb hr hlk hS dX11_movesOf_61 hP hD (by show (fa p1.toNatClampNeg = -1 → v.toInt = 0) ∧ (¬ fa p1.toNatClampNeg = -1 → v.toInt = (kt_ms fo fr (fk p1.toNatClampNeg) mre.toInt (fa p1.toNatClampNeg).toInt mw.toInt ml.toInt 4 : Int)); first | (rw [show (4 : Nat) = w by omega]; exact ⟨hv1, hv2⟩) | exact ⟨hv1, fun h => absurd (ea_14.symm.trans c_16) h⟩)
    · have d_16 := c_16
      simp only [kt_lt, kt_le, kt_eq, kt_c0, kt_c1, kt_c2, kt_c3, kt_c4, kt_c8, kt_c9, kt_cm1, kt_c81, kt_c40, kt_c7, kt_c5, kt_c6, kt_c512, kt_c10, kt_c10000] at d_16
      refine lv_iconst (v := 1) hx hb dX11_movesOf_19 (by decide) ?_
      refine lv_istore (lv' := [(4, .int 1), (3, .int (nI w)), (2, .int v), (0, .ref mx), (1, .int p1)]) hx hb dX11_movesOf_20 hl (by decide) rfl (fun ls hl => ?_)
      refine kt_loop (σ := Nat × Int32) 22 5 (fun u => [(mx, .inr (11, [.int ml, .int mw, .ref ms, .int mgl, .int mhd, .int mre, .int mag, .int mkt, .int mho, .int mpc, .int msd, .int mki, .ref mk, .ref ma, .ref mo, .ref mg, .ref mm, .ref mt, .int mdn, .int mun, .ref mn, .int mtk, .ref me, .ref mq, .int msv, .ref mwo, .ref md, .ref mf, .ref mr])), (ma, .inl (cI, 40, .inl fa)), (mo, .inl (cI, 81, .inl fo)), (mg, .inl (cI, 81, .inl fr)), (mk, .inl (cI, 40, .inl fk))]) (fun u => [(4, .int (nI u.1)), (3, .int (nI w)), (2, .int u.2), (0, .ref mx), (1, .int p1)]) (fun n u => (1 ≤ u.1 ∧ u.1 ≤ 9 ∧ 9 < u.1 + n) ∧ (0 ≤ u.2.toInt ∧ u.2.toInt ≤ 8 * (w : Int) + ((u.1 : Int) - 1)) ∧ u.2.toInt = (kt_ms fo fr (fk p1.toNatClampNeg) mre.toInt (fa p1.toNatClampNeg).toInt mw.toInt ml.toInt w : Int) + (kt_cb fo fr (fk p1.toNatClampNeg) mre.toInt (fa p1.toNatClampNeg).toInt mw.toInt ml.toInt (w : Int) (u.1 - 1) : Int)) (fun u h => by omega) (fun n_22 ih_22 u hI H locs hP hD hS ls hl => ?_) (9) (1, v) (by show (1 ≤ 1 ∧ 1 ≤ 9 ∧ 9 < 1 + 9) ∧ (0 ≤ v.toInt ∧ v.toInt ≤ 8 * (w : Int) + ((1 : Int) - 1)) ∧ v.toInt = (kt_ms fo fr (fk p1.toNatClampNeg) mre.toInt (fa p1.toNatClampNeg).toInt mw.toInt ml.toInt w : Int) + (kt_cb fo fr (fk p1.toNatClampNeg) mre.toInt (fa p1.toNatClampNeg).toInt mw.toInt ml.toInt (w : Int) (1 - 1) : Int); exact ⟨by decide, by omega, by rw [hv2 (fun h => c_16 (ea_14.trans h))]; show _ = _ + ((0 : Nat) : Int); omega⟩) hP hD hS (lv_sub hl [0, 1, 2, 3, 4] rfl)
      obtain ⟨k, v3⟩ := u
      have hP : va_P D vwCl [(mx, .inr (11, [.int ml, .int mw, .ref ms, .int mgl, .int mhd, .int mre, .int mag, .int mkt, .int mho, .int mpc, .int msd, .int mki, .ref mk, .ref ma, .ref mo, .ref mg, .ref mm, .ref mt, .int mdn, .int mun, .ref mn, .int mtk, .ref me, .ref mq, .int msv, .ref mwo, .ref md, .ref mf, .ref mr])), (ma, .inl (cI, 40, .inl fa)), (mo, .inl (cI, 81, .inl fo)), (mg, .inl (cI, 81, .inl fr)), (mk, .inl (cI, 40, .inl fk))] H := hP
      have hD : va_D A [(mx, .inr (11, [.int ml, .int mw, .ref ms, .int mgl, .int mhd, .int mre, .int mag, .int mkt, .int mho, .int mpc, .int msd, .int mki, .ref mk, .ref ma, .ref mo, .ref mg, .ref mm, .ref mt, .int mdn, .int mun, .ref mn, .int mtk, .ref me, .ref mq, .int msv, .ref mwo, .ref md, .ref mf, .ref mr])), (ma, .inl (cI, 40, .inl fa)), (mo, .inl (cI, 81, .inl fo)), (mg, .inl (cI, 81, .inl fr)), (mk, .inl (cI, 40, .inl fk))] := hD
      have hl : lv_has ls 5 [(4, .int (nI k)), (3, .int (nI w)), (2, .int v3), (0, .ref mx), (1, .int p1)] := hl
      have hI : (1 ≤ k ∧ k ≤ 9 ∧ 9 < k + (n_22 + 1)) ∧ (0 ≤ v3.toInt ∧ v3.toInt ≤ 8 * (w : Int) + ((k : Int) - 1)) ∧ v3.toInt = (kt_ms fo fr (fk p1.toNatClampNeg) mre.toInt (fa p1.toNatClampNeg).toInt mw.toInt ml.toInt w : Int) + (kt_cb fo fr (fk p1.toNatClampNeg) mre.toInt (fa p1.toNatClampNeg).toInt mw.toInt ml.toInt (w : Int) (k - 1) : Int) := hI
      obtain ⟨hkb, hv3r, hv3⟩ := hI
      have hk0 := kt_nI (n := k) (by omega)
      refine lv_iload hx hb dX11_movesOf_22 (lv_at hl 0 rfl) ?_
      refine lv_bipush (v := 9) hx hb dX11_movesOf_24 (by decide) ?_
      refine lv_icmp_ge (tgt := 54) hx hb dX11_movesOf_26 (by decide) (fun c_26 => ?_) (fun c_26 => ?_)
      · have d_26 := c_26
        simp only [kt_lt, kt_le, kt_eq, kt_c0, kt_c1, kt_c2, kt_c3, kt_c4, kt_c8, kt_c9, kt_cm1, kt_c81, kt_c40, kt_c7, kt_c5, kt_c6, kt_c512, kt_c10, kt_c10000] at d_26
        refine lv_iinc (v := nI (w + 1)) (lv' := [(3, .int (nI (w + 1))), (4, .int (nI k)), (2, .int v3), (0, .ref mx), (1, .int p1)]) hx hb dX11_movesOf_54 hl (k := 1) rfl (nI_1 _) (by decide) rfl (fun ls hl => ?_)
        refine lv_goto (tgt := 4) hx hb dX11_movesOf_57 (by decide) ?_
        exact ih_4 ((w + 1), v3) (by show ((w + 1) ≤ 4 ∧ 4 < (w + 1) + n_4) ∧ (0 ≤ v3.toInt ∧ v3.toInt ≤ 8 * ((w + 1) : Int)) ∧ (fa p1.toNatClampNeg = -1 → v3.toInt = 0) ∧ (¬ fa p1.toNatClampNeg = -1 → v3.toInt = (kt_ms fo fr (fk p1.toNatClampNeg) mre.toInt (fa p1.toNatClampNeg).toInt mw.toInt ml.toInt (w + 1) : Int)); exact ⟨by omega, by omega, fun h => absurd (ea_14.trans h) c_16, fun _ => by rw [hv3, show k - 1 = 8 by omega]; rfl⟩) H _ hP hD hS ls (lv_sub hl [0, 2, 3, 4] rfl)
      · have d_26 := c_26
        simp only [kt_lt, kt_le, kt_eq, kt_c0, kt_c1, kt_c2, kt_c3, kt_c4, kt_c8, kt_c9, kt_cm1, kt_c81, kt_c40, kt_c7, kt_c5, kt_c6, kt_c512, kt_c10, kt_c10000] at d_26
        refine lv_iload_n hx hb dX11_movesOf_29 rfl (lv_at hl 2 rfl) ?_
        refine lv_aload_n hx hb dX11_movesOf_30 rfl (lv_at hl 3 rfl) ?_
        refine lv_iload_n hx hb dX11_movesOf_31 rfl (lv_at hl 4 rfl) ?_
        refine lv_iload_n hx hb dX11_movesOf_32 rfl (lv_at hl 1 rfl) ?_
        refine lv_iload hx hb dX11_movesOf_33 (lv_at hl 0 rfl) ?_
        refine kt_pi (wc := [(mx, .inr (11, [.int ml, .int mw, .ref ms, .int mgl, .int mhd, .int mre, .int mag, .int mkt, .int mho, .int mpc, .int msd, .int mki, .ref mk, .ref ma, .ref mo, .ref mg, .ref mm, .ref mt, .int mdn, .int mun, .ref mn, .int mtk, .ref me, .ref mq, .int msv, .ref mwo, .ref md, .ref mf, .ref mr])), (ma, .inl (cI, 40, .inl fa)), (mo, .inl (cI, 81, .inl fo)), (mg, .inl (cI, 81, .inl fr)), (mk, .inl (cI, 40, .inl fk))]) [0, 1, 2, 3, 4] hP hD hS hA rfl (by decide) (fun hPc hDc => va_runV (As := [.int p1, .int (nI w), .int (nI k)]) (rest := [.int v3]) ⟨hx, hb, hml, hown, hts⟩ (c_X11_barX l D cI cZ cB H.size mx ms mk ma mo mg mm mt mn me mq mwo md mf mr ml mw mgl mhd mre mag mkt mho mpc msd mki mdn mun mtk msv P_ fa fo fr fk p1 (nI w) (nI k) hml_ hmw hpc hfa hfo hp1 (by rw [← ea_14]; omega) (by omega)) (cwV 3 hts gX11_movesOf_X11_bar rfl rfl rfl (by decide +kernel) ⟨Nat.le_of_ble_eq_true rfl, Nat.le_of_ble_eq_true rfl⟩) (kt_preV hN hK hPc hDc 0 (ci := 11) (q := (RX11, TX11, 29)) rfl rfl) rfl rfl hl.1 rfl (lv_room (Nat.le_of_ble_eq_true rfl)) dX11_movesOf_35 ⟨Nat.le_of_ble_eq_true rfl, Nat.le_of_ble_eq_true rfl⟩) (fun r_35 _ H locs hw_35 hP hS => ?_)
        rw [hw0, hk0] at hw_35
        refine kt_join (σ := Int32) 46 5 (fun u => [(mx, .inr (11, [.int ml, .int mw, .ref ms, .int mgl, .int mhd, .int mre, .int mag, .int mkt, .int mho, .int mpc, .int msd, .int mki, .ref mk, .ref ma, .ref mo, .ref mg, .ref mm, .ref mt, .int mdn, .int mun, .ref mn, .int mtk, .ref me, .ref mq, .int msv, .ref mwo, .ref md, .ref mf, .ref mr])), (ma, .inl (cI, 40, .inl fa)), (mo, .inl (cI, 81, .inl fo)), (mg, .inl (cI, 81, .inl fr)), (mk, .inl (cI, 40, .inl fk))]) (fun u => [(4, .int (nI k)), (3, .int (nI w)), (2, .int v3), (0, .ref mx), (1, .int p1)]) (fun u => [.int u, .int v3]) (fun u => u.toInt = (if kt_bar fo fr (fk p1.toNatClampNeg) mre.toInt (fa p1.toNatClampNeg).toInt mw.toInt ml.toInt (w : Int) (k : Int) = 0 then 1 else 0) ∧ 0 ≤ u.toInt ∧ u.toInt ≤ 1) (D := D) (A := A) (H0 := s.heap) (fun u hI H locs hP hD hS ls hl => ?_) (fun j_46 => ?_)
        · obtain ⟨v2, rfl⟩ : ∃ z, z = u := ⟨_, rfl⟩
          have hP : va_P D vwCl [(mx, .inr (11, [.int ml, .int mw, .ref ms, .int mgl, .int mhd, .int mre, .int mag, .int mkt, .int mho, .int mpc, .int msd, .int mki, .ref mk, .ref ma, .ref mo, .ref mg, .ref mm, .ref mt, .int mdn, .int mun, .ref mn, .int mtk, .ref me, .ref mq, .int msv, .ref mwo, .ref md, .ref mf, .ref mr])), (ma, .inl (cI, 40, .inl fa)), (mo, .inl (cI, 81, .inl fo)), (mg, .inl (cI, 81, .inl fr)), (mk, .inl (cI, 40, .inl fk))] H := hP
          have hD : va_D A [(mx, .inr (11, [.int ml, .int mw, .ref ms, .int mgl, .int mhd, .int mre, .int mag, .int mkt, .int mho, .int mpc, .int msd, .int mki, .ref mk, .ref ma, .ref mo, .ref mg, .ref mm, .ref mt, .int mdn, .int mun, .ref mn, .int mtk, .ref me, .ref mq, .int msv, .ref mwo, .ref md, .ref mf, .ref mr])), (ma, .inl (cI, 40, .inl fa)), (mo, .inl (cI, 81, .inl fo)), (mg, .inl (cI, 81, .inl fr)), (mk, .inl (cI, 40, .inl fk))] := hD
          have hl : lv_has ls 5 [(4, .int (nI k)), (3, .int (nI w)), (2, .int v3), (0, .ref mx), (1, .int p1)] := hl
          have hI : v2.toInt = (if kt_bar fo fr (fk p1.toNatClampNeg) mre.toInt (fa p1.toNatClampNeg).toInt mw.toInt ml.toInt (w : Int) (k : Int) = 0 then 1 else 0) ∧ 0 ≤ v2.toInt ∧ v2.toInt ≤ 1 := hI
          obtain ⟨hv2_, hv2r⟩ := hI
          refine lv_iadd hx hb dX11_movesOf_46 ?_
          refine lv_topi (fun t_46 et_46 => ?_)
          first | have hk_46 := kt_addx et_46 (by first | omega | (simp only [kt_c0, kt_c1, kt_c2, kt_c3, kt_c4, kt_c8, kt_c9, kt_cm1, kt_c81, kt_c40, kt_c7, kt_c5, kt_c6, kt_c512, kt_c10, kt_c10000]; omega)) (by first | omega | (simp only [kt_c0, kt_c1, kt_c2, kt_c3, kt_c4, kt_c8, kt_c9, kt_cm1, kt_c81, kt_c40, kt_c7, kt_c5, kt_c6, kt_c512, kt_c10, kt_c10000]; omega)) | obtain ⟨k_46, hk_46, hm_46, hM_46⟩ := kt_addk et_46
          refine lv_istore_n (lv' := [(2, .int t_46), (4, .int (nI k)), (3, .int (nI w)), (0, .ref mx), (1, .int p1)]) hx hb dX11_movesOf_47 rfl hl (by decide) rfl (fun ls hl => ?_)
          refine lv_iinc (v := nI (k + 1)) (lv' := [(4, .int (nI (k + 1))), (2, .int t_46), (3, .int (nI w)), (0, .ref mx), (1, .int p1)]) hx hb dX11_movesOf_48 hl (k := 1) rfl (nI_1 _) (by decide) rfl (fun ls hl => ?_)
          refine lv_goto (tgt := 22) hx hb dX11_movesOf_51 (by decide) ?_
          exact ih_22 ((k + 1), t_46) (by show (1 ≤ (k + 1) ∧ (k + 1) ≤ 9 ∧ 9 < (k + 1) + n_22) ∧ (0 ≤ t_46.toInt ∧ t_46.toInt ≤ 8 * (w : Int) + (((k + 1) : Int) - 1)) ∧ t_46.toInt = (kt_ms fo fr (fk p1.toNatClampNeg) mre.toInt (fa p1.toNatClampNeg).toInt mw.toInt ml.toInt w : Int) + (kt_cb fo fr (fk p1.toNatClampNeg) mre.toInt (fa p1.toNatClampNeg).toInt mw.toInt ml.toInt (w : Int) ((k + 1) - 1) : Int); exact ⟨by omega, by omega, by rw [Nat.add_sub_cancel, kt_cb_k hkb.1]; omega⟩) H _ hP hD hS ls (lv_sub hl [0, 2, 1, 3, 4] rfl)
        refine lv_if_ne (tgt := 45) hx hb dX11_movesOf_38 (by decide) (fun c_38 => ?_) (fun c_38 => ?_)
        · have d_38 := c_38
          simp only [kt_lt, kt_le, kt_eq, kt_c0, kt_c1, kt_c2, kt_c3, kt_c4, kt_c8, kt_c9, kt_cm1, kt_c81, kt_c40, kt_c7, kt_c5, kt_c6, kt_c512, kt_c10, kt_c10000] at d_38
          refine lv_iconst (v := 0) hx hb dX11_movesOf_45 (by decide) ?_
          exact j_46 (0 : Int32) (by show (0 : Int32).toInt = (if kt_bar fo fr (fk p1.toNatClampNeg) mre.toInt (fa p1.toNatClampNeg).toInt mw.toInt ml.toInt (w : Int) (k : Int) = 0 then 1 else 0) ∧ 0 ≤ (0 : Int32).toInt ∧ (0 : Int32).toInt ≤ 1; first | exact ⟨by rw [if_pos (by omega)]; decide, by decide⟩ | exact ⟨by rw [if_neg (by omega)]; decide, by decide⟩) H _ hP hD hS ls (lv_sub hl [0, 1, 2, 3, 4] rfl)
        · have d_38 := c_38
          simp only [kt_lt, kt_le, kt_eq, kt_c0, kt_c1, kt_c2, kt_c3, kt_c4, kt_c8, kt_c9, kt_cm1, kt_c81, kt_c40, kt_c7, kt_c5, kt_c6, kt_c512, kt_c10, kt_c10000] at d_38
          refine lv_iconst (v := 1) hx hb dX11_movesOf_41 (by decide) ?_
          refine lv_goto (tgt := 46) hx hb dX11_movesOf_42 (by decide) ?_
          exact j_46 (1 : Int32) (by show (1 : Int32).toInt = (if kt_bar fo fr (fk p1.toNatClampNeg) mre.toInt (fa p1.toNatClampNeg).toInt mw.toInt ml.toInt (w : Int) (k : Int) = 0 then 1 else 0) ∧ 0 ≤ (1 : Int32).toInt ∧ (1 : Int32).toInt ≤ 1; first | exact ⟨by rw [if_pos (by omega)]; decide, by decide⟩ | exact ⟨by rw [if_neg (by omega)]; decide, by decide⟩) H _ hP hD hS ls (lv_sub hl [0, 1, 2, 3, 4] rfl)

set_option maxHeartbeats 4000000 in
set_option maxRecDepth 100000 in
theorem c_X11_canGoX (l : Launch) (D : va_G) (cI cZ cB : ClassId) (sz : Nat) (mx : Nat) (ms : Nat) (mk : Nat) (ma : Nat) (mo : Nat) (mg : Nat) (mm : Nat) (mt : Nat) (mn : Nat) (me : Nat) (mq : Nat) (mwo : Nat) (md : Nat) (mf : Nat) (mr : Nat) (ml : Int32) (mw : Int32) (mgl : Int32) (mhd : Int32) (mre : Int32) (mag : Int32) (mkt : Int32) (mho : Int32) (mpc : Int32) (msd : Int32) (mki : Int32) (mdn : Int32) (mun : Int32) (mtk : Int32) (msv : Int32) (P_ : Nat) (fa : Nat → Int32) (fo : Nat → Int32) (fr : Nat → Int32) (fk : Nat → Int32) (p1 : Int32) (hml_ : 2 ≤ ml.toInt ∧ ml.toInt ≤ 9) (hmw : 2 ≤ mw.toInt ∧ mw.toInt ≤ 9) (hpc : (P_ : Int) = mpc.toInt ∧ P_ ≤ 40) (hfa : kt_r fa P_ (-1) (ml.toInt * mw.toInt - 1)) (hfo : kt_r fo 81 (-1) ((P_ : Int) - 1)) : kt_Mi l yX11_canGo wsX11_canGo { frames := 3, cells := 0, slots := 0, locals := 75 } D (kt_ty cI cZ cB) [.ref mx, .int p1] sz [(mx, .inr (11, [.int ml, .int mw, .ref ms, .int mgl, .int mhd, .int mre, .int mag, .int mkt, .int mho, .int mpc, .int msd, .int mki, .ref mk, .ref ma, .ref mo, .ref mg, .ref mm, .ref mt, .int mdn, .int mun, .ref mn, .int mtk, .ref me, .ref mq, .int msv, .ref mwo, .ref md, .ref mf, .ref mr])), (ma, .inl (cI, 40, .inl fa)), (mo, .inl (cI, 81, .inl fo)), (mg, .inl (cI, 81, .inl fr)), (mk, .inl (cI, 40, .inl fk))] (fun (r : Int32) (u : Unit) => kt_B r (kt_can P_ fo fr fk fa mre.toInt mw.toInt ml.toInt p1.toInt)) (fun (u : Unit) => [(mx, .inr (11, [.int ml, .int mw, .ref ms, .int mgl, .int mhd, .int mre, .int mag, .int mkt, .int mho, .int mpc, .int msd, .int mki, .ref mk, .ref ma, .ref mo, .ref mg, .ref mm, .ref mt, .int mdn, .int mun, .ref mn, .int mtk, .ref me, .ref mq, .int msv, .ref mwo, .ref md, .ref mf, .ref mr])), (ma, .inl (cI, 40, .inl fa)), (mo, .inl (cI, 81, .inl fo)), (mg, .inl (cI, 81, .inl fr)), (mk, .inl (cI, 40, .inl fk))]) 0 0 := by
  refine kt_Mi.of (cc := cX11_canGo) (maxL := 4) (ret := some .boolean) (by decide) rfl (Nat.le_of_ble_eq_true rfl) ?_
  intro p e s m below meth c A ls H hAt hP hD hS hl
  obtain ⟨hx, hb, hr, hml, hown, hts, hN, hK, hlk, hnm, hA⟩ := hAt
  have hl : lv_has ls 4 [(0, .ref mx), (1, .int p1)] := hl
  have hown : s.vm.findClass RX11 = some m.cls := hown
  refine lv_iconst (v := 0) hx hb dX11_canGo_0 (by decide) ?_
  refine lv_istore_n (lv' := [(2, .int 0), (0, .ref mx), (1, .int p1)]) hx hb dX11_canGo_1 rfl hl (by decide) rfl (fun ls hl => ?_)
  refine lv_iconst (v := 0) hx hb dX11_canGo_2 (by decide) ?_
  refine lv_istore_n (lv' := [(3, .int 0), (2, .int 0), (0, .ref mx), (1, .int p1)]) hx hb dX11_canGo_3 rfl hl (by decide) rfl (fun ls hl => ?_)
  refine kt_loop (σ := Nat × Int32) 4 4 (fun u => [(mx, .inr (11, [.int ml, .int mw, .ref ms, .int mgl, .int mhd, .int mre, .int mag, .int mkt, .int mho, .int mpc, .int msd, .int mki, .ref mk, .ref ma, .ref mo, .ref mg, .ref mm, .ref mt, .int mdn, .int mun, .ref mn, .int mtk, .ref me, .ref mq, .int msv, .ref mwo, .ref md, .ref mf, .ref mr])), (ma, .inl (cI, 40, .inl fa)), (mo, .inl (cI, 81, .inl fo)), (mg, .inl (cI, 81, .inl fr)), (mk, .inl (cI, 40, .inl fk))]) (fun u => [(3, .int (nI u.1)), (2, .int u.2), (0, .ref mx), (1, .int p1)]) (fun n u => (u.1 ≤ 40 ∧ 40 < u.1 + n ∧ u.1 ≤ P_) ∧ kt_B u.2 (∃ p : Nat, p < u.1 ∧ (kt_side (fk p) = p1.toInt ∧ ¬ fa p = -1 ∧ ∃ a : Nat, a < 4 ∧ kt_bar fo fr (fk p) mre.toInt (fa p).toInt mw.toInt ml.toInt a 1 = 0))) (fun u h => by omega) (fun n_4 ih_4 u hI H locs hP hD hS ls hl => ?_) (41) (0, (0 : Int32)) (by show (0 ≤ 40 ∧ 40 < 0 + 41 ∧ 0 ≤ P_) ∧ kt_B (0 : Int32) (∃ p : Nat, p < 0 ∧ (kt_side (fk p) = p1.toInt ∧ ¬ fa p = -1 ∧ ∃ a : Nat, a < 4 ∧ kt_bar fo fr (fk p) mre.toInt (fa p).toInt mw.toInt ml.toInt a 1 = 0)); exact ⟨⟨by decide, by decide, by omega⟩, Or.inr ⟨rfl, fun ⟨p, h, _⟩ => absurd h (Nat.not_lt_zero p)⟩⟩) hP hD hS (lv_sub hl [0, 1, 2, 3] rfl)
  obtain ⟨k, cz⟩ := u
  have hP : va_P D vwCl [(mx, .inr (11, [.int ml, .int mw, .ref ms, .int mgl, .int mhd, .int mre, .int mag, .int mkt, .int mho, .int mpc, .int msd, .int mki, .ref mk, .ref ma, .ref mo, .ref mg, .ref mm, .ref mt, .int mdn, .int mun, .ref mn, .int mtk, .ref me, .ref mq, .int msv, .ref mwo, .ref md, .ref mf, .ref mr])), (ma, .inl (cI, 40, .inl fa)), (mo, .inl (cI, 81, .inl fo)), (mg, .inl (cI, 81, .inl fr)), (mk, .inl (cI, 40, .inl fk))] H := hP
  have hD : va_D A [(mx, .inr (11, [.int ml, .int mw, .ref ms, .int mgl, .int mhd, .int mre, .int mag, .int mkt, .int mho, .int mpc, .int msd, .int mki, .ref mk, .ref ma, .ref mo, .ref mg, .ref mm, .ref mt, .int mdn, .int mun, .ref mn, .int mtk, .ref me, .ref mq, .int msv, .ref mwo, .ref md, .ref mf, .ref mr])), (ma, .inl (cI, 40, .inl fa)), (mo, .inl (cI, 81, .inl fo)), (mg, .inl (cI, 81, .inl fr)), (mk, .inl (cI, 40, .inl fk))] := hD
  have hl : lv_has ls 4 [(3, .int (nI k)), (2, .int cz), (0, .ref mx), (1, .int p1)] := hl
  have hI : (k ≤ 40 ∧ 40 < k + (n_4 + 1) ∧ k ≤ P_) ∧ kt_B cz (∃ p : Nat, p < k ∧ (kt_side (fk p) = p1.toInt ∧ ¬ fa p = -1 ∧ ∃ a : Nat, a < 4 ∧ kt_bar fo fr (fk p) mre.toInt (fa p).toInt mw.toInt ml.toInt a 1 = 0)) := hI
  obtain ⟨hkb, hcz⟩ := hI
  have hk0 := kt_nI (n := k) (by omega)
  refine lv_iload_n hx hb dX11_canGo_4 rfl (lv_at hl 0 rfl) ?_
  refine lv_aload_n hx hb dX11_canGo_5 rfl (lv_at hl 2 rfl) ?_
  refine va_get (D := D) (ci := 11) (C := RX11) (T := TX11) (N := 29) hx hb hts iw_X11_canGo_X11 hown hK hP 0 rfl rfl 9 (by decide) (hts (.fieldLink RX11 103 "KingTableModel" "pieces" "I") (kt_wp_X11_canGo__X11_canGo_r1 kt_wm0)) (fun _ h9 => h9) rfl dX11_canGo_6 ?_
  refine lv_icmp_ge (tgt := 45) hx hb dX11_canGo_9 (by decide) (fun c_9 => ?_) (fun c_9 => ?_)
  · have d_9 := c_9
    simp only [kt_lt, kt_le, kt_eq, kt_c0, kt_c1, kt_c2, kt_c3, kt_c4, kt_c8, kt_c9, kt_cm1, kt_c81, kt_c40, kt_c7, kt_c5, kt_c6, kt_c512, kt_c10, kt_c10000] at d_9
    refine lv_iload_n hx hb dX11_canGo_45 rfl (lv_at hl 1 rfl) ?_
    exact kt_rz () hx hb hr hlk hS dX11_canGo_46 hP hD (by show kt_B cz (kt_can P_ fo fr fk fa mre.toInt mw.toInt ml.toInt p1.toInt); first | (have hkP : k = P_ := by omega); (rw [hkP] at hcz); exact hcz | exact hcz.iff ⟨fun ⟨p, h1, h2⟩ => ⟨p, by omega, h2⟩, fun _ => hcz.t c_13⟩) (by exact hcz.z)
  · have d_9 := c_9
    simp only [kt_lt, kt_le, kt_eq, kt_c0, kt_c1, kt_c2, kt_c3, kt_c4, kt_c8, kt_c9, kt_cm1, kt_c81, kt_c40, kt_c7, kt_c5, kt_c6, kt_c512, kt_c10, kt_c10000] at d_9
    refine lv_iload_n hx hb dX11_canGo_12 rfl (lv_at hl 1 rfl) ?_
    refine lv_if_ne (tgt := 45) hx hb dX11_canGo_13 (by decide) (fun c_13 => ?_) (fun c_13 => ?_)
    · have d_13 := c_13
      simp only [kt_lt, kt_le, kt_eq, kt_c0, kt_c1, kt_c2, kt_c3, kt_c4, kt_c8, kt_c9, kt_cm1, kt_c81, kt_c40, kt_c7, kt_c5, kt_c6, kt_c512, kt_c10, kt_c10000] at d_13
      refine lv_iload_n hx hb dX11_canGo_45 rfl (lv_at hl 1 rfl) ?_
      exact kt_rz () hx hb hr hlk hS dX11_canGo_46 hP hD (by show kt_B cz (kt_can P_ fo fr fk fa mre.toInt mw.toInt ml.toInt p1.toInt); first | (have hkP : k = P_ := by omega); (rw [hkP] at hcz); exact hcz | exact hcz.iff ⟨fun ⟨p, h1, h2⟩ => ⟨p, by omega, h2⟩, fun _ => hcz.t c_13⟩) (by exact hcz.z)
    · have d_13 := c_13
      simp only [kt_lt, kt_le, kt_eq, kt_c0, kt_c1, kt_c2, kt_c3, kt_c4, kt_c8, kt_c9, kt_cm1, kt_c81, kt_c40, kt_c7, kt_c5, kt_c6, kt_c512, kt_c10, kt_c10000] at d_13
      refine lv_aload_n hx hb dX11_canGo_16 rfl (lv_at hl 2 rfl) ?_
      refine lv_iload_n hx hb dX11_canGo_17 rfl (lv_at hl 0 rfl) ?_
      refine kt_pi (wc := [(mx, .inr (11, [.int ml, .int mw, .ref ms, .int mgl, .int mhd, .int mre, .int mag, .int mkt, .int mho, .int mpc, .int msd, .int mki, .ref mk, .ref ma, .ref mo, .ref mg, .ref mm, .ref mt, .int mdn, .int mun, .ref mn, .int mtk, .ref me, .ref mq, .int msv, .ref mwo, .ref md, .ref mf, .ref mr])), (mk, .inl (cI, 40, .inl fk))]) [0, 4] hP hD hS hA rfl (by decide) (fun hPc hDc => va_runV (As := [.int (nI k)]) (rest := []) ⟨hx, hb, hml, hown, hts⟩ (c_X11_sideOfE l D cI cZ cB H.size mx ms mk ma mo mg mm mt mn me mq mwo md mf mr ml mw mgl mhd mre mag mkt mho mpc msd mki mdn mun mtk msv fk (nI k) (by omega)) (cwV 1 hts gX11_canGo_X11_sideOf rfl rfl rfl (by decide +kernel) ⟨Nat.le_of_ble_eq_true rfl, Nat.le_of_ble_eq_true rfl⟩) (kt_preV hN hK hPc hDc 0 (ci := 11) (q := (RX11, TX11, 29)) rfl rfl) rfl rfl hl.1 rfl (lv_room (Nat.le_of_ble_eq_true rfl)) dX11_canGo_18 ⟨Nat.le_of_ble_eq_true rfl, Nat.le_of_ble_eq_true rfl⟩) (fun r_18 _ H locs hw_18 hP hS => ?_)
      rw [nI_clamp (by omega)] at hw_18
      refine lv_iload_n hx hb dX11_canGo_21 rfl (lv_at hl 3 rfl) ?_
      refine kt_join (σ := Int32) 38 4 (fun u => [(mx, .inr (11, [.int ml, .int mw, .ref ms, .int mgl, .int mhd, .int mre, .int mag, .int mkt, .int mho, .int mpc, .int msd, .int mki, .ref mk, .ref ma, .ref mo, .ref mg, .ref mm, .ref mt, .int mdn, .int mun, .ref mn, .int mtk, .ref me, .ref mq, .int msv, .ref mwo, .ref md, .ref mf, .ref mr])), (ma, .inl (cI, 40, .inl fa)), (mo, .inl (cI, 81, .inl fo)), (mg, .inl (cI, 81, .inl fr)), (mk, .inl (cI, 40, .inl fk))]) (fun u => [(3, .int (nI k)), (2, .int cz), (0, .ref mx), (1, .int p1)]) (fun u => [.int u]) (fun u => kt_B u (kt_side (fk k) = p1.toInt ∧ ¬ fa k = -1 ∧ ∃ a : Nat, a < 4 ∧ kt_bar fo fr (fk k) mre.toInt (fa k).toInt mw.toInt ml.toInt a 1 = 0)) (D := D) (A := A) (H0 := s.heap) (fun u hI H locs hP hD hS ls hl => ?_) (fun j_38 => ?_)
      · obtain ⟨v, rfl⟩ : ∃ z, z = u := ⟨_, rfl⟩
        have hP : va_P D vwCl [(mx, .inr (11, [.int ml, .int mw, .ref ms, .int mgl, .int mhd, .int mre, .int mag, .int mkt, .int mho, .int mpc, .int msd, .int mki, .ref mk, .ref ma, .ref mo, .ref mg, .ref mm, .ref mt, .int mdn, .int mun, .ref mn, .int mtk, .ref me, .ref mq, .int msv, .ref mwo, .ref md, .ref mf, .ref mr])), (ma, .inl (cI, 40, .inl fa)), (mo, .inl (cI, 81, .inl fo)), (mg, .inl (cI, 81, .inl fr)), (mk, .inl (cI, 40, .inl fk))] H := hP
        have hD : va_D A [(mx, .inr (11, [.int ml, .int mw, .ref ms, .int mgl, .int mhd, .int mre, .int mag, .int mkt, .int mho, .int mpc, .int msd, .int mki, .ref mk, .ref ma, .ref mo, .ref mg, .ref mm, .ref mt, .int mdn, .int mun, .ref mn, .int mtk, .ref me, .ref mq, .int msv, .ref mwo, .ref md, .ref mf, .ref mr])), (ma, .inl (cI, 40, .inl fa)), (mo, .inl (cI, 81, .inl fo)), (mg, .inl (cI, 81, .inl fr)), (mk, .inl (cI, 40, .inl fk))] := hD
        have hl : lv_has ls 4 [(3, .int (nI k)), (2, .int cz), (0, .ref mx), (1, .int p1)] := hl
        have hI : kt_B v (kt_side (fk k) = p1.toInt ∧ ¬ fa k = -1 ∧ ∃ a : Nat, a < 4 ∧ kt_bar fo fr (fk k) mre.toInt (fa k).toInt mw.toInt ml.toInt a 1 = 0) := hI
        have hv := hI
        refine lv_istore_n (lv' := [(2, .int v), (3, .int (nI k)), (0, .ref mx), (1, .int p1)]) hx hb dX11_canGo_38 rfl hl (by decide) rfl (fun ls hl => ?_)
        refine lv_iinc (v := nI (k + 1)) (lv' := [(3, .int (nI (k + 1))), (2, .int v), (0, .ref mx), (1, .int p1)]) hx hb dX11_canGo_39 hl (k := 1) rfl (nI_1 _) (by decide) rfl (fun ls hl => ?_)
        refine lv_goto (tgt := 4) hx hb dX11_canGo_42 (by decide) ?_
        exact ih_4 ((k + 1), v) (by show ((k + 1) ≤ 40 ∧ 40 < (k + 1) + n_4 ∧ (k + 1) ≤ P_) ∧ kt_B v (∃ p : Nat, p < (k + 1) ∧ (kt_side (fk p) = p1.toInt ∧ ¬ fa p = -1 ∧ ∃ a : Nat, a < 4 ∧ kt_bar fo fr (fk p) mre.toInt (fa p).toInt mw.toInt ml.toInt a 1 = 0)); exact ⟨by omega, hv.iff ⟨fun h => ⟨k, by omega, h⟩, fun ⟨p, h1, h2⟩ => if e : p = k then (by rw [← e]; exact h2) else absurd ⟨p, by omega, h2⟩ (hcz.f c_13)⟩⟩) H _ hP hD hS ls (lv_sub hl [0, 1, 2, 3] rfl)
      refine lv_icmp_ne (tgt := 37) hx hb dX11_canGo_22 (by decide) (fun c_22 => ?_) (fun c_22 => ?_)
      · have d_22 := c_22
        simp only [kt_lt, kt_le, kt_eq, kt_c0, kt_c1, kt_c2, kt_c3, kt_c4, kt_c8, kt_c9, kt_cm1, kt_c81, kt_c40, kt_c7, kt_c5, kt_c6, kt_c512, kt_c10, kt_c10000] at d_22
        refine lv_iconst (v := 0) hx hb dX11_canGo_37 (by decide) ?_
        exact j_38 (0 : Int32) (by show kt_B (0 : Int32) (kt_side (fk k) = p1.toInt ∧ ¬ fa k = -1 ∧ ∃ a : Nat, a < 4 ∧ kt_bar fo fr (fk k) mre.toInt (fa k).toInt mw.toInt ml.toInt a 1 = 0); first
               | exact Or.inr ⟨rfl, fun h => c_22 ((kt_eq _ _).mpr (by rw [hw_18.1]; exact h.1))⟩
               | exact Or.inl ⟨rfl, by rw [← hw_18.1, c_22], fun h => by have h5 := hw_27.1 h; omega, kt_ms_pos.mp (by by_cases e : fa k = -1; (have h5 := hw_27.1 e; omega); (have h5 := hw_27.2 e; omega))⟩
               | exact Or.inr ⟨rfl, fun h => by have h5 := hw_27.2 h.2.1; have h6 := kt_ms_pos.mpr h.2.2; omega⟩) H _ hP hD hS ls (lv_sub hl [0, 1, 2, 3] rfl)
      · have d_22 := c_22
        simp only [kt_lt, kt_le, kt_eq, kt_c0, kt_c1, kt_c2, kt_c3, kt_c4, kt_c8, kt_c9, kt_cm1, kt_c81, kt_c40, kt_c7, kt_c5, kt_c6, kt_c512, kt_c10, kt_c10000] at d_22
        refine lv_aload_n hx hb dX11_canGo_25 rfl (lv_at hl 2 rfl) ?_
        refine lv_iload_n hx hb dX11_canGo_26 rfl (lv_at hl 0 rfl) ?_
        refine kt_pi (wc := [(mx, .inr (11, [.int ml, .int mw, .ref ms, .int mgl, .int mhd, .int mre, .int mag, .int mkt, .int mho, .int mpc, .int msd, .int mki, .ref mk, .ref ma, .ref mo, .ref mg, .ref mm, .ref mt, .int mdn, .int mun, .ref mn, .int mtk, .ref me, .ref mq, .int msv, .ref mwo, .ref md, .ref mf, .ref mr])), (ma, .inl (cI, 40, .inl fa)), (mo, .inl (cI, 81, .inl fo)), (mg, .inl (cI, 81, .inl fr)), (mk, .inl (cI, 40, .inl fk))]) [0, 1, 2, 3, 4] hP hD hS hA rfl (by decide) (fun hPc hDc => va_runV (As := [.int (nI k)]) (rest := []) ⟨hx, hb, hml, hown, hts⟩ (c_X11_movesOfX l D cI cZ cB H.size mx ms mk ma mo mg mm mt mn me mq mwo md mf mr ml mw mgl mhd mre mag mkt mho mpc msd mki mdn mun mtk msv P_ fa fo fr fk (nI k) hml_ hmw hpc hfa hfo (by omega)) (cwV 1 hts gX11_canGo_X11_movesOf rfl rfl rfl (by decide +kernel) ⟨Nat.le_of_ble_eq_true rfl, Nat.le_of_ble_eq_true rfl⟩) (kt_preV hN hK hPc hDc 0 (ci := 11) (q := (RX11, TX11, 29)) rfl rfl) rfl rfl hl.1 rfl (lv_room (Nat.le_of_ble_eq_true rfl)) dX11_canGo_27 ⟨Nat.le_of_ble_eq_true rfl, Nat.le_of_ble_eq_true rfl⟩) (fun r_27 _ H locs hw_27 hP hS => ?_)
        rw [nI_clamp (by omega)] at hw_27
        refine lv_if_le (tgt := 37) hx hb dX11_canGo_30 (by decide) (fun c_30 => ?_) (fun c_30 => ?_)
        · have d_30 := c_30
          simp only [kt_lt, kt_le, kt_eq, kt_c0, kt_c1, kt_c2, kt_c3, kt_c4, kt_c8, kt_c9, kt_cm1, kt_c81, kt_c40, kt_c7, kt_c5, kt_c6, kt_c512, kt_c10, kt_c10000] at d_30
          refine lv_iconst (v := 0) hx hb dX11_canGo_37 (by decide) ?_
          exact j_38 (0 : Int32) (by show kt_B (0 : Int32) (kt_side (fk k) = p1.toInt ∧ ¬ fa k = -1 ∧ ∃ a : Nat, a < 4 ∧ kt_bar fo fr (fk k) mre.toInt (fa k).toInt mw.toInt ml.toInt a 1 = 0); first
                 | exact Or.inr ⟨rfl, fun h => c_22 ((kt_eq _ _).mpr (by rw [hw_18.1]; exact h.1))⟩
                 | exact Or.inl ⟨rfl, by rw [← hw_18.1, c_22], fun h => by have h5 := hw_27.1 h; omega, kt_ms_pos.mp (by by_cases e : fa k = -1; (have h5 := hw_27.1 e; omega); (have h5 := hw_27.2 e; omega))⟩
                 | exact Or.inr ⟨rfl, fun h => by have h5 := hw_27.2 h.2.1; have h6 := kt_ms_pos.mpr h.2.2; omega⟩) H _ hP hD hS ls (lv_sub hl [0, 1, 2, 3] rfl)
        · have d_30 := c_30
          simp only [kt_lt, kt_le, kt_eq, kt_c0, kt_c1, kt_c2, kt_c3, kt_c4, kt_c8, kt_c9, kt_cm1, kt_c81, kt_c40, kt_c7, kt_c5, kt_c6, kt_c512, kt_c10, kt_c10000] at d_30
          refine lv_iconst (v := 1) hx hb dX11_canGo_33 (by decide) ?_
          refine lv_goto (tgt := 38) hx hb dX11_canGo_34 (by decide) ?_
          exact j_38 (1 : Int32) (by show kt_B (1 : Int32) (kt_side (fk k) = p1.toInt ∧ ¬ fa k = -1 ∧ ∃ a : Nat, a < 4 ∧ kt_bar fo fr (fk k) mre.toInt (fa k).toInt mw.toInt ml.toInt a 1 = 0); first
                 | exact Or.inr ⟨rfl, fun h => c_22 ((kt_eq _ _).mpr (by rw [hw_18.1]; exact h.1))⟩
                 | exact Or.inl ⟨rfl, by rw [← hw_18.1, c_22], fun h => by have h5 := hw_27.1 h; omega, kt_ms_pos.mp (by by_cases e : fa k = -1; (have h5 := hw_27.1 e; omega); (have h5 := hw_27.2 e; omega))⟩
                 | exact Or.inr ⟨rfl, fun h => by have h5 := hw_27.2 h.2.1; have h6 := kt_ms_pos.mpr h.2.2; omega⟩) H _ hP hD hS ls (lv_sub hl [0, 1, 2, 3] rfl)

set_option maxHeartbeats 4000000 in
set_option maxRecDepth 100000 in
theorem c_X11_isAlikeX (l : Launch) (D : va_G) (cI cZ cB : ClassId) (sz : Nat) (mx : Nat) (ms : Nat) (mk : Nat) (ma : Nat) (mo : Nat) (mg : Nat) (mm : Nat) (mt : Nat) (mn : Nat) (me : Nat) (mq : Nat) (mwo : Nat) (md : Nat) (mf : Nat) (mr : Nat) (ml : Int32) (mw : Int32) (mgl : Int32) (mhd : Int32) (mre : Int32) (mag : Int32) (mkt : Int32) (mho : Int32) (mpc : Int32) (msd : Int32) (mki : Int32) (mdn : Int32) (mun : Int32) (mtk : Int32) (msv : Int32) (gs_ : Nat → Int32) (p1 : Int32) (p2 : Int32) (hp1 : 0 ≤ p1.toInt ∧ p1.toInt ≤ 4000) (hp2 : 0 ≤ p2.toInt ∧ p2.toInt ≤ 4000) : kt_Mi l yX11_isAlike wsX11_isAlike { frames := 1, cells := 0, slots := 0, locals := 21 } D (kt_ty cI cZ cB) [.ref mx, .int p1, .int p2] sz [(mx, .inr (11, [.int ml, .int mw, .ref ms, .int mgl, .int mhd, .int mre, .int mag, .int mkt, .int mho, .int mpc, .int msd, .int mki, .ref mk, .ref ma, .ref mo, .ref mg, .ref mm, .ref mt, .int mdn, .int mun, .ref mn, .int mtk, .ref me, .ref mq, .int msv, .ref mwo, .ref md, .ref mf, .ref mr])), (mt, .inl (cB, 172241, .inl gs_))] (fun (r : Int32) (u : Unit) => kt_B r (∀ j : Nat, j < 41 → gs_ (41 * p1.toInt.toNat + j) = gs_ (41 * p2.toInt.toNat + j))) (fun (u : Unit) => [(mx, .inr (11, [.int ml, .int mw, .ref ms, .int mgl, .int mhd, .int mre, .int mag, .int mkt, .int mho, .int mpc, .int msd, .int mki, .ref mk, .ref ma, .ref mo, .ref mg, .ref mm, .ref mt, .int mdn, .int mun, .ref mn, .int mtk, .ref me, .ref mq, .int msv, .ref mwo, .ref md, .ref mf, .ref mr])), (mt, .inl (cB, 172241, .inl gs_))]) 0 0 := by
  refine kt_Mi.of (cc := cX11_isAlike) (maxL := 5) (ret := some .boolean) (by decide) rfl (Nat.le_of_ble_eq_true rfl) ?_
  intro p e s m below meth c A ls H hAt hP hD hS hl
  obtain ⟨hx, hb, hr, hml, hown, hts, hN, hK, hlk, hnm, hA⟩ := hAt
  have hl : lv_has ls 5 [(0, .ref mx), (1, .int p1), (2, .int p2)] := hl
  have hown : s.vm.findClass RX11 = some m.cls := hown
  refine lv_iconst (v := 1) hx hb dX11_isAlike_0 (by decide) ?_
  refine lv_istore_n (lv' := [(3, .int 1), (0, .ref mx), (1, .int p1), (2, .int p2)]) hx hb dX11_isAlike_1 rfl hl (by decide) rfl (fun ls hl => ?_)
  refine lv_iconst (v := 0) hx hb dX11_isAlike_2 (by decide) ?_
  refine lv_istore (lv' := [(4, .int 0), (3, .int 1), (0, .ref mx), (1, .int p1), (2, .int p2)]) hx hb dX11_isAlike_3 hl (by decide) rfl (fun ls hl => ?_)
  refine kt_loop (σ := Nat × Int32) 5 5 (fun u => [(mx, .inr (11, [.int ml, .int mw, .ref ms, .int mgl, .int mhd, .int mre, .int mag, .int mkt, .int mho, .int mpc, .int msd, .int mki, .ref mk, .ref ma, .ref mo, .ref mg, .ref mm, .ref mt, .int mdn, .int mun, .ref mn, .int mtk, .ref me, .ref mq, .int msv, .ref mwo, .ref md, .ref mf, .ref mr])), (mt, .inl (cB, 172241, .inl gs_))]) (fun u => [(4, .int (nI u.1)), (3, .int u.2), (0, .ref mx), (1, .int p1), (2, .int p2)]) (fun n u => (u.1 ≤ 41 ∧ 41 < u.1 + n) ∧ kt_B u.2 (∀ j : Nat, j < u.1 → gs_ (41 * p1.toInt.toNat + j) = gs_ (41 * p2.toInt.toNat + j))) (fun u h => by omega) (fun n_5 ih_5 u hI H locs hP hD hS ls hl => ?_) (42) (0, (1 : Int32)) (by show (0 ≤ 41 ∧ 41 < 0 + 42) ∧ kt_B (1 : Int32) (∀ j : Nat, j < 0 → gs_ (41 * p1.toInt.toNat + j) = gs_ (41 * p2.toInt.toNat + j)); exact ⟨by decide, Or.inl ⟨rfl, fun j h => absurd h (Nat.not_lt_zero j)⟩⟩) hP hD hS (lv_sub hl [0, 1, 2, 3, 4] rfl)
  obtain ⟨k, cz⟩ := u
  have hP : va_P D vwCl [(mx, .inr (11, [.int ml, .int mw, .ref ms, .int mgl, .int mhd, .int mre, .int mag, .int mkt, .int mho, .int mpc, .int msd, .int mki, .ref mk, .ref ma, .ref mo, .ref mg, .ref mm, .ref mt, .int mdn, .int mun, .ref mn, .int mtk, .ref me, .ref mq, .int msv, .ref mwo, .ref md, .ref mf, .ref mr])), (mt, .inl (cB, 172241, .inl gs_))] H := hP
  have hD : va_D A [(mx, .inr (11, [.int ml, .int mw, .ref ms, .int mgl, .int mhd, .int mre, .int mag, .int mkt, .int mho, .int mpc, .int msd, .int mki, .ref mk, .ref ma, .ref mo, .ref mg, .ref mm, .ref mt, .int mdn, .int mun, .ref mn, .int mtk, .ref me, .ref mq, .int msv, .ref mwo, .ref md, .ref mf, .ref mr])), (mt, .inl (cB, 172241, .inl gs_))] := hD
  have hl : lv_has ls 5 [(4, .int (nI k)), (3, .int cz), (0, .ref mx), (1, .int p1), (2, .int p2)] := hl
  have hI : (k ≤ 41 ∧ 41 < k + (n_5 + 1)) ∧ kt_B cz (∀ j : Nat, j < k → gs_ (41 * p1.toInt.toNat + j) = gs_ (41 * p2.toInt.toNat + j)) := hI
  obtain ⟨hkb, hcz⟩ := hI
  have hk0 := kt_nI (n := k) (by omega)
  refine lv_iload hx hb dX11_isAlike_5 (lv_at hl 0 rfl) ?_
  refine lv_bipush (v := 41) hx hb dX11_isAlike_7 (by decide) ?_
  refine lv_icmp_ge (tgt := 57) hx hb dX11_isAlike_9 (by decide) (fun c_9 => ?_) (fun c_9 => ?_)
  · have d_9 := c_9
    simp only [kt_lt, kt_le, kt_eq, kt_c0, kt_c1, kt_c2, kt_c3, kt_c4, kt_c8, kt_c9, kt_cm1, kt_c81, kt_c40, kt_c7, kt_c5, kt_c6, kt_c512, kt_c10, kt_c10000] at d_9
    try rw [kt_c41] at d_9
    refine lv_iload_n hx hb dX11_isAlike_57 rfl (lv_at hl 1 rfl) ?_
    exact kt_rz () hx hb hr hlk hS dX11_isAlike_58 hP hD (by show kt_B cz (∀ j : Nat, j < 41 → gs_ (41 * p1.toInt.toNat + j) = gs_ (41 * p2.toInt.toNat + j)); first | (have hk41 : k = 41 := by omega); (rw [hk41] at hcz); exact hcz | exact hcz.iff ⟨fun h => absurd h (hcz.f c_13), fun h j hj => h j (by omega)⟩) (by exact hcz.z)
  · have d_9 := c_9
    simp only [kt_lt, kt_le, kt_eq, kt_c0, kt_c1, kt_c2, kt_c3, kt_c4, kt_c8, kt_c9, kt_cm1, kt_c81, kt_c40, kt_c7, kt_c5, kt_c6, kt_c512, kt_c10, kt_c10000] at d_9
    rw [kt_c41] at d_9
    refine lv_iload_n hx hb dX11_isAlike_12 rfl (lv_at hl 1 rfl) ?_
    refine lv_if_eq (tgt := 57) hx hb dX11_isAlike_13 (by decide) (fun c_13 => ?_) (fun c_13 => ?_)
    · have d_13 := c_13
      simp only [kt_lt, kt_le, kt_eq, kt_c0, kt_c1, kt_c2, kt_c3, kt_c4, kt_c8, kt_c9, kt_cm1, kt_c81, kt_c40, kt_c7, kt_c5, kt_c6, kt_c512, kt_c10, kt_c10000] at d_13
      try rw [kt_c41] at d_9
      refine lv_iload_n hx hb dX11_isAlike_57 rfl (lv_at hl 1 rfl) ?_
      exact kt_rz () hx hb hr hlk hS dX11_isAlike_58 hP hD (by show kt_B cz (∀ j : Nat, j < 41 → gs_ (41 * p1.toInt.toNat + j) = gs_ (41 * p2.toInt.toNat + j)); first | (have hk41 : k = 41 := by omega); (rw [hk41] at hcz); exact hcz | exact hcz.iff ⟨fun h => absurd h (hcz.f c_13), fun h j hj => h j (by omega)⟩) (by exact hcz.z)
    · have d_13 := c_13
      simp only [kt_lt, kt_le, kt_eq, kt_c0, kt_c1, kt_c2, kt_c3, kt_c4, kt_c8, kt_c9, kt_cm1, kt_c81, kt_c40, kt_c7, kt_c5, kt_c6, kt_c512, kt_c10, kt_c10000] at d_13
      refine lv_aload_n hx hb dX11_isAlike_16 rfl (lv_at hl 2 rfl) ?_
      refine va_get (D := D) (ci := 11) (C := RX11) (T := TX11) (N := 29) hx hb hts iw_X11_isAlike_X11 hown hK hP 0 rfl rfl 17 (by decide) (hts (.fieldLink RX11 43 "KingTableModel" "stood" "[B") (List.mem_cons_of_mem _ (List.mem_append_left _ (List.Mem.head _)))) (fun _ h9 => h9) rfl dX11_isAlike_17 ?_
      refine lv_aload_n hx hb dX11_isAlike_20 rfl (lv_at hl 2 rfl) ?_
      refine lv_iload_n hx hb dX11_isAlike_21 rfl (lv_at hl 3 rfl) ?_
      refine kt_pi (wc := [(mx, .inr (11, [.int ml, .int mw, .ref ms, .int mgl, .int mhd, .int mre, .int mag, .int mkt, .int mho, .int mpc, .int msd, .int mki, .ref mk, .ref ma, .ref mo, .ref mg, .ref mm, .ref mt, .int mdn, .int mun, .ref mn, .int mtk, .ref me, .ref mq, .int msv, .ref mwo, .ref md, .ref mf, .ref mr]))]) [0] hP hD hS hA rfl (by decide) (fun hPc hDc => va_runV (As := [.int p1]) (rest := [.ref mt]) ⟨hx, hb, hml, hown, hts⟩ (c_X11_row l D cI cZ cB H.size mx ms mk ma mo mg mm mt mn me mq mwo md mf mr ml mw mgl mhd mre mag mkt mho mpc msd mki mdn mun mtk msv p1 (by first | assumption | omega | rfl | decide)) (cwV 1 hts gX11_isAlike_X11_row rfl rfl rfl (by decide +kernel) ⟨Nat.le_of_ble_eq_true rfl, Nat.le_of_ble_eq_true rfl⟩) (kt_preV hN hK hPc hDc 0 (ci := 11) (q := (RX11, TX11, 29)) rfl rfl) rfl rfl hl.1 rfl (lv_room (Nat.le_of_ble_eq_true rfl)) dX11_isAlike_22 ⟨Nat.le_of_ble_eq_true rfl, Nat.le_of_ble_eq_true rfl⟩) (fun r_22 _ H locs hw_22 hP hS => ?_)
      refine lv_iload hx hb dX11_isAlike_25 (lv_at hl 0 rfl) ?_
      refine lv_iadd hx hb dX11_isAlike_27 ?_
      refine lv_topi (fun t_27 et_27 => ?_)
      first | have hk_27 := kt_addx et_27 (by first | omega | (simp only [kt_c0, kt_c1, kt_c2, kt_c3, kt_c4, kt_c8, kt_c9, kt_cm1, kt_c81, kt_c40, kt_c7, kt_c5, kt_c6, kt_c512, kt_c10, kt_c10000]; omega)) (by first | omega | (simp only [kt_c0, kt_c1, kt_c2, kt_c3, kt_c4, kt_c8, kt_c9, kt_cm1, kt_c81, kt_c40, kt_c7, kt_c5, kt_c6, kt_c512, kt_c10, kt_c10000]; omega)) | obtain ⟨k_27, hk_27, hm_27, hM_27⟩ := kt_addk et_27
      have hi_1 : vp_in t_27 172241 := by exact kt_in (by omega) (by omega)
      refine va_bald hx hb hK hP 1 2 rfl rfl hi_1 dX11_isAlike_28 ?_
      refine lv_topi (fun a_28 ea_28 => ?_)
      refine lv_aload_n hx hb dX11_isAlike_29 rfl (lv_at hl 2 rfl) ?_
      refine va_get (D := D) (ci := 11) (C := RX11) (T := TX11) (N := 29) hx hb hts iw_X11_isAlike_X11 hown hK hP 0 rfl rfl 17 (by decide) (hts (.fieldLink RX11 43 "KingTableModel" "stood" "[B") (List.mem_cons_of_mem _ (List.mem_append_left _ (List.Mem.head _)))) (fun _ h9 => h9) rfl dX11_isAlike_30 ?_
      refine lv_aload_n hx hb dX11_isAlike_33 rfl (lv_at hl 2 rfl) ?_
      refine lv_iload_n hx hb dX11_isAlike_34 rfl (lv_at hl 4 rfl) ?_
      refine kt_pi (wc := [(mx, .inr (11, [.int ml, .int mw, .ref ms, .int mgl, .int mhd, .int mre, .int mag, .int mkt, .int mho, .int mpc, .int msd, .int mki, .ref mk, .ref ma, .ref mo, .ref mg, .ref mm, .ref mt, .int mdn, .int mun, .ref mn, .int mtk, .ref me, .ref mq, .int msv, .ref mwo, .ref md, .ref mf, .ref mr]))]) [0] hP hD hS hA rfl (by decide) (fun hPc hDc => va_runV (As := [.int p2]) (rest := [.ref mt, .int a_28]) ⟨hx, hb, hml, hown, hts⟩ (c_X11_row l D cI cZ cB H.size mx ms mk ma mo mg mm mt mn me mq mwo md mf mr ml mw mgl mhd mre mag mkt mho mpc msd mki mdn mun mtk msv p2 (by first | assumption | omega | rfl | decide)) (cwV 1 hts gX11_isAlike_X11_row rfl rfl rfl (by decide +kernel) ⟨Nat.le_of_ble_eq_true rfl, Nat.le_of_ble_eq_true rfl⟩) (kt_preV hN hK hPc hDc 0 (ci := 11) (q := (RX11, TX11, 29)) rfl rfl) rfl rfl hl.1 rfl (lv_room (Nat.le_of_ble_eq_true rfl)) dX11_isAlike_35 ⟨Nat.le_of_ble_eq_true rfl, Nat.le_of_ble_eq_true rfl⟩) (fun r_35 _ H locs hw_35 hP hS => ?_)
      refine lv_iload hx hb dX11_isAlike_38 (lv_at hl 0 rfl) ?_
      refine lv_iadd hx hb dX11_isAlike_40 ?_
      refine lv_topi (fun t_40 et_40 => ?_)
      first | have hk_40 := kt_addx et_40 (by first | omega | (simp only [kt_c0, kt_c1, kt_c2, kt_c3, kt_c4, kt_c8, kt_c9, kt_cm1, kt_c81, kt_c40, kt_c7, kt_c5, kt_c6, kt_c512, kt_c10, kt_c10000]; omega)) (by first | omega | (simp only [kt_c0, kt_c1, kt_c2, kt_c3, kt_c4, kt_c8, kt_c9, kt_cm1, kt_c81, kt_c40, kt_c7, kt_c5, kt_c6, kt_c512, kt_c10, kt_c10000]; omega)) | obtain ⟨k_40, hk_40, hm_40, hM_40⟩ := kt_addk et_40
      have hi_2 : vp_in t_40 172241 := by exact kt_in (by omega) (by omega)
      refine va_bald hx hb hK hP 1 2 rfl rfl hi_2 dX11_isAlike_41 ?_
      refine lv_topi (fun a_41 ea_41 => ?_)
      refine kt_join (σ := Int32) 50 5 (fun u => [(mx, .inr (11, [.int ml, .int mw, .ref ms, .int mgl, .int mhd, .int mre, .int mag, .int mkt, .int mho, .int mpc, .int msd, .int mki, .ref mk, .ref ma, .ref mo, .ref mg, .ref mm, .ref mt, .int mdn, .int mun, .ref mn, .int mtk, .ref me, .ref mq, .int msv, .ref mwo, .ref md, .ref mf, .ref mr])), (mt, .inl (cB, 172241, .inl gs_))]) (fun u => [(4, .int (nI k)), (3, .int cz), (0, .ref mx), (1, .int p1), (2, .int p2)]) (fun u => [.int u]) (fun u => kt_B u (gs_ (41 * p1.toInt.toNat + k) = gs_ (41 * p2.toInt.toNat + k))) (D := D) (A := A) (H0 := s.heap) (fun u hI H locs hP hD hS ls hl => ?_) (fun j_50 => ?_)
      · obtain ⟨v, rfl⟩ : ∃ z, z = u := ⟨_, rfl⟩
        have hP : va_P D vwCl [(mx, .inr (11, [.int ml, .int mw, .ref ms, .int mgl, .int mhd, .int mre, .int mag, .int mkt, .int mho, .int mpc, .int msd, .int mki, .ref mk, .ref ma, .ref mo, .ref mg, .ref mm, .ref mt, .int mdn, .int mun, .ref mn, .int mtk, .ref me, .ref mq, .int msv, .ref mwo, .ref md, .ref mf, .ref mr])), (mt, .inl (cB, 172241, .inl gs_))] H := hP
        have hD : va_D A [(mx, .inr (11, [.int ml, .int mw, .ref ms, .int mgl, .int mhd, .int mre, .int mag, .int mkt, .int mho, .int mpc, .int msd, .int mki, .ref mk, .ref ma, .ref mo, .ref mg, .ref mm, .ref mt, .int mdn, .int mun, .ref mn, .int mtk, .ref me, .ref mq, .int msv, .ref mwo, .ref md, .ref mf, .ref mr])), (mt, .inl (cB, 172241, .inl gs_))] := hD
        have hl : lv_has ls 5 [(4, .int (nI k)), (3, .int cz), (0, .ref mx), (1, .int p1), (2, .int p2)] := hl
        have hI : kt_B v (gs_ (41 * p1.toInt.toNat + k) = gs_ (41 * p2.toInt.toNat + k)) := hI
        have hv := hI
        refine lv_istore_n (lv' := [(3, .int v), (4, .int (nI k)), (0, .ref mx), (1, .int p1), (2, .int p2)]) hx hb dX11_isAlike_50 rfl hl (by decide) rfl (fun ls hl => ?_)
        refine lv_iinc (v := nI (k + 1)) (lv' := [(4, .int (nI (k + 1))), (3, .int v), (0, .ref mx), (1, .int p1), (2, .int p2)]) hx hb dX11_isAlike_51 hl (k := 1) rfl (nI_1 _) (by decide) rfl (fun ls hl => ?_)
        refine lv_goto (tgt := 5) hx hb dX11_isAlike_54 (by decide) ?_
        exact ih_5 ((k + 1), v) (by show ((k + 1) ≤ 41 ∧ 41 < (k + 1) + n_5) ∧ kt_B v (∀ j : Nat, j < (k + 1) → gs_ (41 * p1.toInt.toNat + j) = gs_ (41 * p2.toInt.toNat + j)); exact ⟨by omega, hv.iff ⟨fun h j hj => if e : j = k then (by rw [e]; exact h) else (hcz.t c_13) j (by omega), fun h => h k (by omega)⟩⟩) H _ hP hD hS ls (lv_sub hl [0, 1, 2, 3, 4] rfl)
      have e28 : a_28 = gs_ (41 * p1.toInt.toNat + k) := by rw [ea_28, kt_clamp (n := 41 * p1.toInt.toNat + k) (by omega)]
      have e41 : a_41 = gs_ (41 * p2.toInt.toNat + k) := by rw [ea_41, kt_clamp (n := 41 * p2.toInt.toNat + k) (by omega)]
      refine lv_icmp_ne (tgt := 49) hx hb dX11_isAlike_42 (by decide) (fun c_42 => ?_) (fun c_42 => ?_)
      · have d_42 := c_42
        simp only [kt_lt, kt_le, kt_eq, kt_c0, kt_c1, kt_c2, kt_c3, kt_c4, kt_c8, kt_c9, kt_cm1, kt_c81, kt_c40, kt_c7, kt_c5, kt_c6, kt_c512, kt_c10, kt_c10000] at d_42
        refine lv_iconst (v := 0) hx hb dX11_isAlike_49 (by decide) ?_
        exact j_50 (0 : Int32) (by show kt_B (0 : Int32) (gs_ (41 * p1.toInt.toNat + k) = gs_ (41 * p2.toInt.toNat + k)); rw [← e28, ← e41]; first | exact Or.inl ⟨rfl, c_42⟩ | exact Or.inr ⟨rfl, c_42⟩) H _ hP hD hS ls (lv_sub hl [0, 1, 2, 3, 4] rfl)
      · have d_42 := c_42
        simp only [kt_lt, kt_le, kt_eq, kt_c0, kt_c1, kt_c2, kt_c3, kt_c4, kt_c8, kt_c9, kt_cm1, kt_c81, kt_c40, kt_c7, kt_c5, kt_c6, kt_c512, kt_c10, kt_c10000] at d_42
        refine lv_iconst (v := 1) hx hb dX11_isAlike_45 (by decide) ?_
        refine lv_goto (tgt := 50) hx hb dX11_isAlike_46 (by decide) ?_
        exact j_50 (1 : Int32) (by show kt_B (1 : Int32) (gs_ (41 * p1.toInt.toNat + k) = gs_ (41 * p2.toInt.toNat + k)); rw [← e28, ← e41]; first | exact Or.inl ⟨rfl, c_42⟩ | exact Or.inr ⟨rfl, c_42⟩) H _ hP hD hS ls (lv_sub hl [0, 1, 2, 3, 4] rfl)

set_option maxHeartbeats 4000000 in
set_option maxRecDepth 100000 in
theorem c_X11_cameBackX (l : Launch) (D : va_G) (cI cZ cB : ClassId) (sz : Nat) (mx : Nat) (ms : Nat) (mk : Nat) (ma : Nat) (mo : Nat) (mg : Nat) (mm : Nat) (mt : Nat) (mn : Nat) (me : Nat) (mq : Nat) (mwo : Nat) (md : Nat) (mf : Nat) (mr : Nat) (ml : Int32) (mw : Int32) (mgl : Int32) (mhd : Int32) (mre : Int32) (mag : Int32) (mkt : Int32) (mho : Int32) (mpc : Int32) (msd : Int32) (mki : Int32) (mdn : Int32) (mun : Int32) (mtk : Int32) (msv : Int32) (gs_ : Nat → Int32) (p1 : Int32) (hp1 : 0 ≤ p1.toInt ∧ p1.toInt ≤ 4000) : kt_Mi l yX11_cameBack wsX11_cameBack { frames := 2, cells := 0, slots := 0, locals := 45 } D (kt_ty cI cZ cB) [.ref mx, .int p1] sz [(mx, .inr (11, [.int ml, .int mw, .ref ms, .int mgl, .int mhd, .int mre, .int mag, .int mkt, .int mho, .int mpc, .int msd, .int mki, .ref mk, .ref ma, .ref mo, .ref mg, .ref mm, .ref mt, .int mdn, .int mun, .ref mn, .int mtk, .ref me, .ref mq, .int msv, .ref mwo, .ref md, .ref mf, .ref mr])), (mt, .inl (cB, 172241, .inl gs_))] (fun (r : Int32) (u : Unit) => kt_B r (∃ i : Nat, i < p1.toInt.toNat ∧ ∀ j : Nat, j < 41 → gs_ (41 * i + j) = gs_ (41 * p1.toInt.toNat + j))) (fun (u : Unit) => [(mx, .inr (11, [.int ml, .int mw, .ref ms, .int mgl, .int mhd, .int mre, .int mag, .int mkt, .int mho, .int mpc, .int msd, .int mki, .ref mk, .ref ma, .ref mo, .ref mg, .ref mm, .ref mt, .int mdn, .int mun, .ref mn, .int mtk, .ref me, .ref mq, .int msv, .ref mwo, .ref md, .ref mf, .ref mr])), (mt, .inl (cB, 172241, .inl gs_))]) 0 0 := by
  refine kt_Mi.of (cc := cX11_cameBack) (maxL := 4) (ret := some .boolean) (by decide) rfl (Nat.le_of_ble_eq_true rfl) ?_
  intro p e s m below meth c A ls H hAt hP hD hS hl
  obtain ⟨hx, hb, hr, hml, hown, hts, hN, hK, hlk, hnm, hA⟩ := hAt
  have hl : lv_has ls 4 [(0, .ref mx), (1, .int p1)] := hl
  have hown : s.vm.findClass RX11 = some m.cls := hown
  refine lv_iconst (v := 0) hx hb dX11_cameBack_0 (by decide) ?_
  refine lv_istore_n (lv' := [(2, .int 0), (0, .ref mx), (1, .int p1)]) hx hb dX11_cameBack_1 rfl hl (by decide) rfl (fun ls hl => ?_)
  refine lv_iconst (v := 0) hx hb dX11_cameBack_2 (by decide) ?_
  refine lv_istore_n (lv' := [(3, .int 0), (2, .int 0), (0, .ref mx), (1, .int p1)]) hx hb dX11_cameBack_3 rfl hl (by decide) rfl (fun ls hl => ?_)
  refine kt_loop (σ := Nat × Int32) 4 4 (fun u => [(mx, .inr (11, [.int ml, .int mw, .ref ms, .int mgl, .int mhd, .int mre, .int mag, .int mkt, .int mho, .int mpc, .int msd, .int mki, .ref mk, .ref ma, .ref mo, .ref mg, .ref mm, .ref mt, .int mdn, .int mun, .ref mn, .int mtk, .ref me, .ref mq, .int msv, .ref mwo, .ref md, .ref mf, .ref mr])), (mt, .inl (cB, 172241, .inl gs_))]) (fun u => [(3, .int (nI u.1)), (2, .int u.2), (0, .ref mx), (1, .int p1)]) (fun n u => (u.1 ≤ 4200 ∧ 4200 < u.1 + n ∧ (u.1 : Int) ≤ p1.toInt) ∧ kt_B u.2 (∃ i : Nat, i < u.1 ∧ ∀ j : Nat, j < 41 → gs_ (41 * i + j) = gs_ (41 * p1.toInt.toNat + j))) (fun u h => by omega) (fun n_4 ih_4 u hI H locs hP hD hS ls hl => ?_) (4201) (0, (0 : Int32)) (by show (0 ≤ 4200 ∧ 4200 < 0 + 4201 ∧ (0 : Int) ≤ p1.toInt) ∧ kt_B (0 : Int32) (∃ i : Nat, i < 0 ∧ ∀ j : Nat, j < 41 → gs_ (41 * i + j) = gs_ (41 * p1.toInt.toNat + j)); exact ⟨⟨by decide, by decide, by omega⟩, Or.inr ⟨rfl, fun ⟨i, h, _⟩ => absurd h (Nat.not_lt_zero i)⟩⟩) hP hD hS (lv_sub hl [0, 1, 2, 3] rfl)
  obtain ⟨k, cz⟩ := u
  have hP : va_P D vwCl [(mx, .inr (11, [.int ml, .int mw, .ref ms, .int mgl, .int mhd, .int mre, .int mag, .int mkt, .int mho, .int mpc, .int msd, .int mki, .ref mk, .ref ma, .ref mo, .ref mg, .ref mm, .ref mt, .int mdn, .int mun, .ref mn, .int mtk, .ref me, .ref mq, .int msv, .ref mwo, .ref md, .ref mf, .ref mr])), (mt, .inl (cB, 172241, .inl gs_))] H := hP
  have hD : va_D A [(mx, .inr (11, [.int ml, .int mw, .ref ms, .int mgl, .int mhd, .int mre, .int mag, .int mkt, .int mho, .int mpc, .int msd, .int mki, .ref mk, .ref ma, .ref mo, .ref mg, .ref mm, .ref mt, .int mdn, .int mun, .ref mn, .int mtk, .ref me, .ref mq, .int msv, .ref mwo, .ref md, .ref mf, .ref mr])), (mt, .inl (cB, 172241, .inl gs_))] := hD
  have hl : lv_has ls 4 [(3, .int (nI k)), (2, .int cz), (0, .ref mx), (1, .int p1)] := hl
  have hI : (k ≤ 4200 ∧ 4200 < k + (n_4 + 1) ∧ (k : Int) ≤ p1.toInt) ∧ kt_B cz (∃ i : Nat, i < k ∧ ∀ j : Nat, j < 41 → gs_ (41 * i + j) = gs_ (41 * p1.toInt.toNat + j)) := hI
  obtain ⟨hkb, hcz⟩ := hI
  have hk0 := kt_nI (n := k) (by omega)
  refine lv_iload_n hx hb dX11_cameBack_4 rfl (lv_at hl 0 rfl) ?_
  refine lv_iload_n hx hb dX11_cameBack_5 rfl (lv_at hl 3 rfl) ?_
  refine lv_icmp_ge (tgt := 26) hx hb dX11_cameBack_6 (by decide) (fun c_6 => ?_) (fun c_6 => ?_)
  · have d_6 := c_6
    simp only [kt_lt, kt_le, kt_eq, kt_c0, kt_c1, kt_c2, kt_c3, kt_c4, kt_c8, kt_c9, kt_cm1, kt_c81, kt_c40, kt_c7, kt_c5, kt_c6, kt_c512, kt_c10, kt_c10000] at d_6
    refine lv_iload_n hx hb dX11_cameBack_26 rfl (lv_at hl 1 rfl) ?_
    exact kt_rz () hx hb hr hlk hS dX11_cameBack_27 hP hD (by show kt_B cz (∃ i : Nat, i < p1.toInt.toNat ∧ ∀ j : Nat, j < 41 → gs_ (41 * i + j) = gs_ (41 * p1.toInt.toNat + j)); first | (have hkp : k = p1.toInt.toNat := by omega); (rw [hkp] at hcz); exact hcz | exact hcz.iff ⟨fun ⟨i, h1, h2⟩ => ⟨i, by omega, h2⟩, fun _ => hcz.t c_10⟩) (by exact hcz.z)
  · have d_6 := c_6
    simp only [kt_lt, kt_le, kt_eq, kt_c0, kt_c1, kt_c2, kt_c3, kt_c4, kt_c8, kt_c9, kt_cm1, kt_c81, kt_c40, kt_c7, kt_c5, kt_c6, kt_c512, kt_c10, kt_c10000] at d_6
    refine lv_iload_n hx hb dX11_cameBack_9 rfl (lv_at hl 1 rfl) ?_
    refine lv_if_ne (tgt := 26) hx hb dX11_cameBack_10 (by decide) (fun c_10 => ?_) (fun c_10 => ?_)
    · have d_10 := c_10
      simp only [kt_lt, kt_le, kt_eq, kt_c0, kt_c1, kt_c2, kt_c3, kt_c4, kt_c8, kt_c9, kt_cm1, kt_c81, kt_c40, kt_c7, kt_c5, kt_c6, kt_c512, kt_c10, kt_c10000] at d_10
      refine lv_iload_n hx hb dX11_cameBack_26 rfl (lv_at hl 1 rfl) ?_
      exact kt_rz () hx hb hr hlk hS dX11_cameBack_27 hP hD (by show kt_B cz (∃ i : Nat, i < p1.toInt.toNat ∧ ∀ j : Nat, j < 41 → gs_ (41 * i + j) = gs_ (41 * p1.toInt.toNat + j)); first | (have hkp : k = p1.toInt.toNat := by omega); (rw [hkp] at hcz); exact hcz | exact hcz.iff ⟨fun ⟨i, h1, h2⟩ => ⟨i, by omega, h2⟩, fun _ => hcz.t c_10⟩) (by exact hcz.z)
    · have d_10 := c_10
      simp only [kt_lt, kt_le, kt_eq, kt_c0, kt_c1, kt_c2, kt_c3, kt_c4, kt_c8, kt_c9, kt_cm1, kt_c81, kt_c40, kt_c7, kt_c5, kt_c6, kt_c512, kt_c10, kt_c10000] at d_10
      refine lv_aload_n hx hb dX11_cameBack_13 rfl (lv_at hl 2 rfl) ?_
      refine lv_iload_n hx hb dX11_cameBack_14 rfl (lv_at hl 0 rfl) ?_
      refine lv_iload_n hx hb dX11_cameBack_15 rfl (lv_at hl 3 rfl) ?_
      refine kt_pi (wc := [(mx, .inr (11, [.int ml, .int mw, .ref ms, .int mgl, .int mhd, .int mre, .int mag, .int mkt, .int mho, .int mpc, .int msd, .int mki, .ref mk, .ref ma, .ref mo, .ref mg, .ref mm, .ref mt, .int mdn, .int mun, .ref mn, .int mtk, .ref me, .ref mq, .int msv, .ref mwo, .ref md, .ref mf, .ref mr])), (mt, .inl (cB, 172241, .inl gs_))]) [0, 1] hP hD hS hA rfl (by decide) (fun hPc hDc => va_runV (As := [.int (nI k), .int p1]) (rest := []) ⟨hx, hb, hml, hown, hts⟩ (c_X11_isAlikeX l D cI cZ cB H.size mx ms mk ma mo mg mm mt mn me mq mwo md mf mr ml mw mgl mhd mre mag mkt mho mpc msd mki mdn mun mtk msv gs_ (nI k) p1 (by omega) hp1) (cwV 2 hts gX11_cameBack_X11_isAlike rfl rfl rfl (by decide +kernel) ⟨Nat.le_of_ble_eq_true rfl, Nat.le_of_ble_eq_true rfl⟩) (kt_preV hN hK hPc hDc 0 (ci := 11) (q := (RX11, TX11, 29)) rfl rfl) rfl rfl hl.1 rfl (lv_room (Nat.le_of_ble_eq_true rfl)) dX11_cameBack_16 ⟨Nat.le_of_ble_eq_true rfl, Nat.le_of_ble_eq_true rfl⟩) (fun r_16 _ H locs hw_16 hP hS => ?_)
      rw [hk0, show ((k : Int)).toNat = k by omega] at hw_16
      refine lv_istore_n (lv' := [(2, .int r_16), (3, .int (nI k)), (0, .ref mx), (1, .int p1)]) hx hb dX11_cameBack_19 rfl hl (by decide) rfl (fun ls hl => ?_)
      refine lv_iinc (v := nI (k + 1)) (lv' := [(3, .int (nI (k + 1))), (2, .int r_16), (0, .ref mx), (1, .int p1)]) hx hb dX11_cameBack_20 hl (k := 1) rfl (nI_1 _) (by decide) rfl (fun ls hl => ?_)
      refine lv_goto (tgt := 4) hx hb dX11_cameBack_23 (by decide) ?_
      exact ih_4 ((k + 1), r_16) (by show ((k + 1) ≤ 4200 ∧ 4200 < (k + 1) + n_4 ∧ ((k + 1) : Int) ≤ p1.toInt) ∧ kt_B r_16 (∃ i : Nat, i < (k + 1) ∧ ∀ j : Nat, j < 41 → gs_ (41 * i + j) = gs_ (41 * p1.toInt.toNat + j)); exact ⟨by omega, hw_16.iff ⟨fun h => ⟨k, by omega, h⟩, fun ⟨i, h1, h2⟩ => if e : i = k then (by rw [← e]; exact h2) else absurd ⟨i, by omega, h2⟩ (hcz.f c_10)⟩⟩) H _ hP hD hS ls (lv_sub hl [0, 1, 2, 3] rfl)

set_option maxHeartbeats 4000000 in
set_option maxRecDepth 100000 in
theorem c_X11_lookAgainX (l : Launch) (D : va_G) (cI cZ cB : ClassId) (sz : Nat) (mx : Nat) (ms : Nat) (mk : Nat) (ma : Nat) (mo : Nat) (mg : Nat) (mm : Nat) (mt : Nat) (mn : Nat) (me : Nat) (mq : Nat) (mwo : Nat) (md : Nat) (mf : Nat) (mr : Nat) (ml : Int32) (mw : Int32) (mgl : Int32) (mhd : Int32) (mre : Int32) (mag : Int32) (mkt : Int32) (mho : Int32) (mpc : Int32) (msd : Int32) (mki : Int32) (mdn : Int32) (mun : Int32) (mtk : Int32) (msv : Int32) (P_ : Nat) (gs_ : Nat → Int32) (ft : Nat → Int32) (hpc : (P_ : Int) = mpc.toInt ∧ P_ ≤ 40) (hdm : 0 ≤ mdn.toInt ∧ mdn.toInt ≤ 4000) : kt_Mv l yX11_lookAgain wsX11_lookAgain { frames := 1, cells := 0, slots := 0, locals := 21 } D (kt_ty cI cZ cB) [.ref mx] sz [(mx, .inr (11, [.int ml, .int mw, .ref ms, .int mgl, .int mhd, .int mre, .int mag, .int mkt, .int mho, .int mpc, .int msd, .int mki, .ref mk, .ref ma, .ref mo, .ref mg, .ref mm, .ref mt, .int mdn, .int mun, .ref mn, .int mtk, .ref me, .ref mq, .int msv, .ref mwo, .ref md, .ref mf, .ref mr])), (mt, .inl (cB, 172241, .inl gs_)), (mn, .inl (cZ, 40, .inl ft))] (fun (u : Int32 × (Nat → Int32)) => (mdn.toInt = 0 → u.1 = -1) ∧ (0 < mdn.toInt → u.1 = nI (kt_ct kt_nz u.2 P_)) ∧ ∀ p : Nat, p < P_ → (¬ u.2 p = 0 ↔ 0 < mdn.toInt ∧ (¬ gs_ (41 * (mdn.toInt.toNat - 1) + p) = -1 ∧ gs_ (41 * mdn.toInt.toNat + p) = -1))) (fun (u : Int32 × (Nat → Int32)) => [(mx, .inr (11, [.int ml, .int mw, .ref ms, .int mgl, .int mhd, .int mre, .int mag, .int mkt, .int mho, .int mpc, .int msd, .int mki, .ref mk, .ref ma, .ref mo, .ref mg, .ref mm, .ref mt, .int mdn, .int mun, .ref mn, .int u.1, .ref me, .ref mq, .int msv, .ref mwo, .ref md, .ref mf, .ref mr])), (mt, .inl (cB, 172241, .inl gs_)), (mn, .inl (cZ, 40, .inl u.2))]) 0 0 := by
  refine kt_Mv.of (cc := cX11_lookAgain) (maxL := 2) (ret := none) (by decide) rfl (Nat.le_of_ble_eq_true rfl) ?_
  intro p e s m below meth c A ls H hAt hP hD hS hl
  obtain ⟨hx, hb, hr, hml, hown, hts, hN, hK, hlk, hnm, hA⟩ := hAt
  have hl : lv_has ls 2 [(0, .ref mx)] := hl
  have hown : s.vm.findClass RX11 = some m.cls := hown
  refine lv_aload_n hx hb dX11_lookAgain_0 rfl (lv_at hl 0 rfl) ?_
  refine lv_aload_n hx hb dX11_lookAgain_1 rfl (lv_at hl 0 rfl) ?_
  refine va_get (D := D) (ci := 11) (C := RX11) (T := TX11) (N := 29) hx hb hts iw_X11_lookAgain_X11 hown hK hP 0 rfl rfl 18 (by decide) (hts (.fieldLink RX11 138 "KingTableModel" "done" "I") (List.mem_cons_of_mem _ (List.mem_append_left _ (List.Mem.head _)))) (fun _ h9 => h9) rfl dX11_lookAgain_2 ?_
  refine kt_join (σ := Int32) 13 2 (fun u => [(mx, .inr (11, [.int ml, .int mw, .ref ms, .int mgl, .int mhd, .int mre, .int mag, .int mkt, .int mho, .int mpc, .int msd, .int mki, .ref mk, .ref ma, .ref mo, .ref mg, .ref mm, .ref mt, .int mdn, .int mun, .ref mn, .int mtk, .ref me, .ref mq, .int msv, .ref mwo, .ref md, .ref mf, .ref mr])), (mt, .inl (cB, 172241, .inl gs_)), (mn, .inl (cZ, 40, .inl ft))]) (fun u => [(0, .ref mx)]) (fun u => [.int u, .ref mx]) (fun u => (mdn.toInt = 0 → u = -1) ∧ (0 < mdn.toInt → u = 0)) (D := D) (A := A) (H0 := s.heap) (fun u hI H locs hP hD hS ls hl => ?_) (fun j_13 => ?_)
  · obtain ⟨v, rfl⟩ : ∃ z, z = u := ⟨_, rfl⟩
    have hP : va_P D vwCl [(mx, .inr (11, [.int ml, .int mw, .ref ms, .int mgl, .int mhd, .int mre, .int mag, .int mkt, .int mho, .int mpc, .int msd, .int mki, .ref mk, .ref ma, .ref mo, .ref mg, .ref mm, .ref mt, .int mdn, .int mun, .ref mn, .int mtk, .ref me, .ref mq, .int msv, .ref mwo, .ref md, .ref mf, .ref mr])), (mt, .inl (cB, 172241, .inl gs_)), (mn, .inl (cZ, 40, .inl ft))] H := hP
    have hD : va_D A [(mx, .inr (11, [.int ml, .int mw, .ref ms, .int mgl, .int mhd, .int mre, .int mag, .int mkt, .int mho, .int mpc, .int msd, .int mki, .ref mk, .ref ma, .ref mo, .ref mg, .ref mm, .ref mt, .int mdn, .int mun, .ref mn, .int mtk, .ref me, .ref mq, .int msv, .ref mwo, .ref md, .ref mf, .ref mr])), (mt, .inl (cB, 172241, .inl gs_)), (mn, .inl (cZ, 40, .inl ft))] := hD
    have hl : lv_has ls 2 [(0, .ref mx)] := hl
    have hI : (mdn.toInt = 0 → v = -1) ∧ (0 < mdn.toInt → v = 0) := hI
    have hv := hI
    refine va_put (D := D) (ci := 11) (v := .int v) (ty := .int) (C := RX11) (T := TX11) (N := 29) hx hb hts iw_X11_lookAgain_X11 tyX11 tyX11_ok nmX11 hown hK hP hD hS 0 rfl rfl 21 (by decide) (hts (.fieldLink RX11 120 "KingTableModel" "tookMany" "I") (List.mem_cons_of_mem _ (List.mem_append_left _ (List.mem_cons_of_mem _ (List.Mem.head _))))) (fun _ h9 => h9) rfl (by decide +kernel) rfl rfl (Nat.le_of_ble_eq_true rfl) dX11_lookAgain_13 (fun H locs hP hD hS => ?_)
    have hP : va_P D vwCl [(mx, .inr (11, [.int ml, .int mw, .ref ms, .int mgl, .int mhd, .int mre, .int mag, .int mkt, .int mho, .int mpc, .int msd, .int mki, .ref mk, .ref ma, .ref mo, .ref mg, .ref mm, .ref mt, .int mdn, .int mun, .ref mn, .int v, .ref me, .ref mq, .int msv, .ref mwo, .ref md, .ref mf, .ref mr])), (mt, .inl (cB, 172241, .inl gs_)), (mn, .inl (cZ, 40, .inl ft))] H := hP
    have hD : va_D A [(mx, .inr (11, [.int ml, .int mw, .ref ms, .int mgl, .int mhd, .int mre, .int mag, .int mkt, .int mho, .int mpc, .int msd, .int mki, .ref mk, .ref ma, .ref mo, .ref mg, .ref mm, .ref mt, .int mdn, .int mun, .ref mn, .int v, .ref me, .ref mq, .int msv, .ref mwo, .ref md, .ref mf, .ref mr])), (mt, .inl (cB, 172241, .inl gs_)), (mn, .inl (cZ, 40, .inl ft))] := hD
    refine lv_iconst (v := 0) hx hb dX11_lookAgain_16 (by decide) ?_
    refine lv_istore_n (lv' := [(1, .int 0), (0, .ref mx)]) hx hb dX11_lookAgain_17 rfl hl (by decide) rfl (fun ls hl => ?_)
    refine kt_loop (σ := Nat × Int32 × (Nat → Int32)) 18 2 (fun u => [(mx, .inr (11, [.int ml, .int mw, .ref ms, .int mgl, .int mhd, .int mre, .int mag, .int mkt, .int mho, .int mpc, .int msd, .int mki, .ref mk, .ref ma, .ref mo, .ref mg, .ref mm, .ref mt, .int mdn, .int mun, .ref mn, .int u.2.1, .ref me, .ref mq, .int msv, .ref mwo, .ref md, .ref mf, .ref mr])), (mt, .inl (cB, 172241, .inl gs_)), (mn, .inl (cZ, 40, .inl u.2.2))]) (fun u => [(1, .int (nI u.1)), (0, .ref mx)]) (fun n u => (u.1 ≤ 40 ∧ 40 < u.1 + n ∧ u.1 ≤ P_) ∧ (mdn.toInt = 0 → u.2.1 = -1) ∧ (0 < mdn.toInt → u.2.1 = nI (kt_ct kt_nz u.2.2 u.1)) ∧ ∀ p : Nat, p < u.1 → (¬ u.2.2 p = 0 ↔ 0 < mdn.toInt ∧ (¬ gs_ (41 * (mdn.toInt.toNat - 1) + p) = -1 ∧ gs_ (41 * mdn.toInt.toNat + p) = -1))) (fun u h => by omega) (fun n_18 ih_18 u hI H locs hP hD hS ls hl => ?_) (41) (0, v, ft) (by show (0 ≤ 40 ∧ 40 < 0 + 41 ∧ 0 ≤ P_) ∧ (mdn.toInt = 0 → v = -1) ∧ (0 < mdn.toInt → v = nI (kt_ct kt_nz ft 0)) ∧ ∀ p : Nat, p < 0 → (¬ ft p = 0 ↔ 0 < mdn.toInt ∧ (¬ gs_ (41 * (mdn.toInt.toNat - 1) + p) = -1 ∧ gs_ (41 * mdn.toInt.toNat + p) = -1)); exact ⟨⟨by decide, by decide, by omega⟩, hv.1, hv.2, fun p h => absurd h (Nat.not_lt_zero p)⟩) hP hD hS (lv_sub hl [0, 1] rfl)
    obtain ⟨k, tm, g⟩ := u
    have hP : va_P D vwCl [(mx, .inr (11, [.int ml, .int mw, .ref ms, .int mgl, .int mhd, .int mre, .int mag, .int mkt, .int mho, .int mpc, .int msd, .int mki, .ref mk, .ref ma, .ref mo, .ref mg, .ref mm, .ref mt, .int mdn, .int mun, .ref mn, .int tm, .ref me, .ref mq, .int msv, .ref mwo, .ref md, .ref mf, .ref mr])), (mt, .inl (cB, 172241, .inl gs_)), (mn, .inl (cZ, 40, .inl g))] H := hP
    have hD : va_D A [(mx, .inr (11, [.int ml, .int mw, .ref ms, .int mgl, .int mhd, .int mre, .int mag, .int mkt, .int mho, .int mpc, .int msd, .int mki, .ref mk, .ref ma, .ref mo, .ref mg, .ref mm, .ref mt, .int mdn, .int mun, .ref mn, .int tm, .ref me, .ref mq, .int msv, .ref mwo, .ref md, .ref mf, .ref mr])), (mt, .inl (cB, 172241, .inl gs_)), (mn, .inl (cZ, 40, .inl g))] := hD
    have hl : lv_has ls 2 [(1, .int (nI k)), (0, .ref mx)] := hl
    have hI : (k ≤ 40 ∧ 40 < k + (n_18 + 1) ∧ k ≤ P_) ∧ (mdn.toInt = 0 → tm = -1) ∧ (0 < mdn.toInt → tm = nI (kt_ct kt_nz g k)) ∧ ∀ p : Nat, p < k → (¬ g p = 0 ↔ 0 < mdn.toInt ∧ (¬ gs_ (41 * (mdn.toInt.toNat - 1) + p) = -1 ∧ gs_ (41 * mdn.toInt.toNat + p) = -1)) := hI
    obtain ⟨hkb, ht0, ht1, hla⟩ := hI
    have hk0 := kt_nI (n := k) (by omega)
    refine lv_iload_n hx hb dX11_lookAgain_18 rfl (lv_at hl 0 rfl) ?_
    refine lv_aload_n hx hb dX11_lookAgain_19 rfl (lv_at hl 1 rfl) ?_
    refine va_get (D := D) (ci := 11) (C := RX11) (T := TX11) (N := 29) hx hb hts iw_X11_lookAgain_X11 hown hK hP 0 rfl rfl 9 (by decide) (hts (.fieldLink RX11 103 "KingTableModel" "pieces" "I") (List.mem_cons_of_mem _ (List.mem_append_left _ (List.mem_cons_of_mem _ (List.mem_cons_of_mem _ (List.Mem.head _)))))) (fun _ h9 => h9) rfl dX11_lookAgain_20 ?_
    refine lv_icmp_ge (tgt := 109) hx hb dX11_lookAgain_23 (by decide) (fun c_23 => ?_) (fun c_23 => ?_)
    · have d_23 := c_23
      simp only [kt_lt, kt_le, kt_eq, kt_c0, kt_c1, kt_c2, kt_c3, kt_c4, kt_c8, kt_c9, kt_cm1, kt_c81, kt_c40, kt_c7, kt_c5, kt_c6, kt_c512, kt_c10, kt_c10000] at d_23
      exact kt_rv (tm, g) hx hb hr hlk hS dX11_lookAgain_109 hP hD (by show (mdn.toInt = 0 → tm = -1) ∧ (0 < mdn.toInt → tm = nI (kt_ct kt_nz g P_)) ∧ ∀ p : Nat, p < P_ → (¬ g p = 0 ↔ 0 < mdn.toInt ∧ (¬ gs_ (41 * (mdn.toInt.toNat - 1) + p) = -1 ∧ gs_ (41 * mdn.toInt.toNat + p) = -1)); (have hkP : k = P_ := by omega); (rw [hkP] at ht1 hla); exact ⟨ht0, ht1, hla⟩)
    · have d_23 := c_23
      simp only [kt_lt, kt_le, kt_eq, kt_c0, kt_c1, kt_c2, kt_c3, kt_c4, kt_c8, kt_c9, kt_cm1, kt_c81, kt_c40, kt_c7, kt_c5, kt_c6, kt_c512, kt_c10, kt_c10000] at d_23
      refine lv_aload_n hx hb dX11_lookAgain_26 rfl (lv_at hl 1 rfl) ?_
      refine va_get (D := D) (ci := 11) (C := RX11) (T := TX11) (N := 29) hx hb hts iw_X11_lookAgain_X11 hown hK hP 0 rfl rfl 20 (by decide) (hts (.fieldLink RX11 47 "KingTableModel" "taken" "[Z") (List.mem_cons_of_mem _ (List.mem_append_left _ (List.mem_cons_of_mem _ (List.mem_cons_of_mem _ (List.mem_cons_of_mem _ (List.Mem.head _))))))) (fun _ h9 => h9) rfl dX11_lookAgain_27 ?_
      refine lv_iload_n hx hb dX11_lookAgain_30 rfl (lv_at hl 0 rfl) ?_
      refine lv_aload_n hx hb dX11_lookAgain_31 rfl (lv_at hl 1 rfl) ?_
      refine va_get (D := D) (ci := 11) (C := RX11) (T := TX11) (N := 29) hx hb hts iw_X11_lookAgain_X11 hown hK hP 0 rfl rfl 18 (by decide) (hts (.fieldLink RX11 138 "KingTableModel" "done" "I") (List.mem_cons_of_mem _ (List.mem_append_left _ (List.Mem.head _)))) (fun _ h9 => h9) rfl dX11_lookAgain_32 ?_
      refine kt_join (σ := Int32) 83 2 (fun u => [(mx, .inr (11, [.int ml, .int mw, .ref ms, .int mgl, .int mhd, .int mre, .int mag, .int mkt, .int mho, .int mpc, .int msd, .int mki, .ref mk, .ref ma, .ref mo, .ref mg, .ref mm, .ref mt, .int mdn, .int mun, .ref mn, .int tm, .ref me, .ref mq, .int msv, .ref mwo, .ref md, .ref mf, .ref mr])), (mt, .inl (cB, 172241, .inl gs_)), (mn, .inl (cZ, 40, .inl g))]) (fun u => [(1, .int (nI k)), (0, .ref mx)]) (fun u => [.int u, .int (nI k), .ref mn]) (fun u => kt_B u (0 < mdn.toInt ∧ (¬ gs_ (41 * (mdn.toInt.toNat - 1) + k) = -1 ∧ gs_ (41 * mdn.toInt.toNat + k) = -1))) (D := D) (A := A) (H0 := s.heap) (fun u hI H locs hP hD hS ls hl => ?_) (fun j_83 => ?_)
      · obtain ⟨w, rfl⟩ : ∃ z, z = u := ⟨_, rfl⟩
        have hP : va_P D vwCl [(mx, .inr (11, [.int ml, .int mw, .ref ms, .int mgl, .int mhd, .int mre, .int mag, .int mkt, .int mho, .int mpc, .int msd, .int mki, .ref mk, .ref ma, .ref mo, .ref mg, .ref mm, .ref mt, .int mdn, .int mun, .ref mn, .int tm, .ref me, .ref mq, .int msv, .ref mwo, .ref md, .ref mf, .ref mr])), (mt, .inl (cB, 172241, .inl gs_)), (mn, .inl (cZ, 40, .inl g))] H := hP
        have hD : va_D A [(mx, .inr (11, [.int ml, .int mw, .ref ms, .int mgl, .int mhd, .int mre, .int mag, .int mkt, .int mho, .int mpc, .int msd, .int mki, .ref mk, .ref ma, .ref mo, .ref mg, .ref mm, .ref mt, .int mdn, .int mun, .ref mn, .int tm, .ref me, .ref mq, .int msv, .ref mwo, .ref md, .ref mf, .ref mr])), (mt, .inl (cB, 172241, .inl gs_)), (mn, .inl (cZ, 40, .inl g))] := hD
        have hl : lv_has ls 2 [(1, .int (nI k)), (0, .ref mx)] := hl
        have hI : kt_B w (0 < mdn.toInt ∧ (¬ gs_ (41 * (mdn.toInt.toNat - 1) + k) = -1 ∧ gs_ (41 * mdn.toInt.toNat + k) = -1)) := hI
        have hw := hI
        have hwr : 0 ≤ w.toInt ∧ w.toInt ≤ 1 := by rcases hw with ⟨h, -⟩ | ⟨h, -⟩ <;> rw [h] <;> decide
        have hwn := kt_zn hwr.1 hwr.2
        have hi_1 : vp_in (nI k) 40 := by exact kt_in (by omega) (by omega)
        refine va_zast hx hb hK hP hD hS 2 1 rfl rfl hi_1 dX11_lookAgain_83 (fun H locs hP hD hS => ?_)
        have hP : va_P D vwCl [(mx, .inr (11, [.int ml, .int mw, .ref ms, .int mgl, .int mhd, .int mre, .int mag, .int mkt, .int mho, .int mpc, .int msd, .int mki, .ref mk, .ref ma, .ref mo, .ref mg, .ref mm, .ref mt, .int mdn, .int mun, .ref mn, .int tm, .ref me, .ref mq, .int msv, .ref mwo, .ref md, .ref mf, .ref mr])), (mt, .inl (cB, 172241, .inl gs_)), (mn, .inl (cZ, 40, .inl (upd g (nI k).toNatClampNeg (vp_nar .boolean w))))] H := hP
        have hD : va_D A [(mx, .inr (11, [.int ml, .int mw, .ref ms, .int mgl, .int mhd, .int mre, .int mag, .int mkt, .int mho, .int mpc, .int msd, .int mki, .ref mk, .ref ma, .ref mo, .ref mg, .ref mm, .ref mt, .int mdn, .int mun, .ref mn, .int tm, .ref me, .ref mq, .int msv, .ref mwo, .ref md, .ref mf, .ref mr])), (mt, .inl (cB, 172241, .inl gs_)), (mn, .inl (cZ, 40, .inl (upd g (nI k).toNatClampNeg (vp_nar .boolean w))))] := hD
        refine lv_aload_n hx hb dX11_lookAgain_84 rfl (lv_at hl 1 rfl) ?_
        refine va_get (D := D) (ci := 11) (C := RX11) (T := TX11) (N := 29) hx hb hts iw_X11_lookAgain_X11 hown hK hP 0 rfl rfl 20 (by decide) (hts (.fieldLink RX11 47 "KingTableModel" "taken" "[Z") (List.mem_cons_of_mem _ (List.mem_append_left _ (List.mem_cons_of_mem _ (List.mem_cons_of_mem _ (List.mem_cons_of_mem _ (List.Mem.head _))))))) (fun _ h9 => h9) rfl dX11_lookAgain_85 ?_
        refine lv_iload_n hx hb dX11_lookAgain_88 rfl (lv_at hl 0 rfl) ?_
        have hi_2 : vp_in (nI k) 40 := by exact kt_in (by omega) (by omega)
        refine va_zald hx hb hK hP 2 1 rfl rfl hi_2 dX11_lookAgain_89 ?_
        refine lv_topi (fun a_89 ea_89 => ?_)
        rw [pk_us, hwn] at ea_89
        refine lv_if_eq (tgt := 103) hx hb dX11_lookAgain_90 (by decide) (fun c_90 => ?_) (fun c_90 => ?_)
        · have d_90 := c_90
          simp only [kt_lt, kt_le, kt_eq, kt_c0, kt_c1, kt_c2, kt_c3, kt_c4, kt_c8, kt_c9, kt_cm1, kt_c81, kt_c40, kt_c7, kt_c5, kt_c6, kt_c512, kt_c10, kt_c10000] at d_90
          refine lv_iinc (v := nI (k + 1)) (lv' := [(1, .int (nI (k + 1))), (0, .ref mx)]) hx hb dX11_lookAgain_103 hl (k := 0) rfl (nI_1 _) (by decide) rfl (fun ls hl => ?_)
          refine lv_goto (tgt := 18) hx hb dX11_lookAgain_106 (by decide) ?_
          exact ih_18 ((k + 1), tm, (upd g (nI k).toNatClampNeg (vp_nar .boolean w))) (by show ((k + 1) ≤ 40 ∧ 40 < (k + 1) + n_18 ∧ (k + 1) ≤ P_) ∧ (mdn.toInt = 0 → tm = -1) ∧ (0 < mdn.toInt → tm = nI (kt_ct kt_nz (upd g (nI k).toNatClampNeg (vp_nar .boolean w)) (k + 1))) ∧ ∀ p : Nat, p < (k + 1) → (¬ (upd g (nI k).toNatClampNeg (vp_nar .boolean w)) p = 0 ↔ 0 < mdn.toInt ∧ (¬ gs_ (41 * (mdn.toInt.toNat - 1) + p) = -1 ∧ gs_ (41 * mdn.toInt.toNat + p) = -1)); rw [nI_clamp (by omega), hwn]; first
                  | exact ⟨by omega, ht0, fun h => by rw [kt_ct_u0 (by unfold kt_nz; rw [← ea_89, c_90]; decide)]; exact ht1 h, fun p hp => if e : p = k then (by rw [e, pk_us]; exact hw.nz) else (by rw [pk_un e]; exact hla p (by omega))⟩
                  | exact ⟨by omega, fun h => absurd ((hw.t (by rw [← ea_89]; exact c_90)).1) (by omega), fun h => by rw [kt_ct_u1 (by unfold kt_nz; rw [← ea_89]; exact decide_eq_true c_90), et_99, ht1 h]; exact nI_1 _, fun p hp => if e : p = k then (by rw [e, pk_us]; exact hw.nz) else (by rw [pk_un e]; exact hla p (by omega))⟩) H _ hP hD hS ls (lv_sub hl [0, 1] rfl)
        · have d_90 := c_90
          simp only [kt_lt, kt_le, kt_eq, kt_c0, kt_c1, kt_c2, kt_c3, kt_c4, kt_c8, kt_c9, kt_cm1, kt_c81, kt_c40, kt_c7, kt_c5, kt_c6, kt_c512, kt_c10, kt_c10000] at d_90
          refine lv_aload_n hx hb dX11_lookAgain_93 rfl (lv_at hl 1 rfl) ?_
          refine lv_dup hx hb dX11_lookAgain_94 rfl ?_
          refine va_get (D := D) (ci := 11) (C := RX11) (T := TX11) (N := 29) hx hb hts iw_X11_lookAgain_X11 hown hK hP 0 rfl rfl 21 (by decide) (hts (.fieldLink RX11 120 "KingTableModel" "tookMany" "I") (List.mem_cons_of_mem _ (List.mem_append_left _ (List.mem_cons_of_mem _ (List.Mem.head _))))) (fun _ h9 => h9) rfl dX11_lookAgain_95 ?_
          refine lv_iconst (v := 1) hx hb dX11_lookAgain_98 (by decide) ?_
          refine lv_iadd hx hb dX11_lookAgain_99 ?_
          refine lv_topi (fun t_99 et_99 => ?_)
          first | have hk_99 := kt_addx et_99 (by first | omega | (simp only [kt_c0, kt_c1, kt_c2, kt_c3, kt_c4, kt_c8, kt_c9, kt_cm1, kt_c81, kt_c40, kt_c7, kt_c5, kt_c6, kt_c512, kt_c10, kt_c10000]; omega)) (by first | omega | (simp only [kt_c0, kt_c1, kt_c2, kt_c3, kt_c4, kt_c8, kt_c9, kt_cm1, kt_c81, kt_c40, kt_c7, kt_c5, kt_c6, kt_c512, kt_c10, kt_c10000]; omega)) | obtain ⟨k_99, hk_99, hm_99, hM_99⟩ := kt_addk et_99
          try simp only [kt_c0, kt_c1, kt_c2, kt_c3, kt_c4, kt_c8, kt_c9, kt_cm1, kt_c81, kt_c40, kt_c7, kt_c5, kt_c6, kt_c512, kt_c10, kt_c10000] at hk_99
          refine va_put (D := D) (ci := 11) (v := .int t_99) (ty := .int) (C := RX11) (T := TX11) (N := 29) hx hb hts iw_X11_lookAgain_X11 tyX11 tyX11_ok nmX11 hown hK hP hD hS 0 rfl rfl 21 (by decide) (hts (.fieldLink RX11 120 "KingTableModel" "tookMany" "I") (List.mem_cons_of_mem _ (List.mem_append_left _ (List.mem_cons_of_mem _ (List.Mem.head _))))) (fun _ h9 => h9) rfl (by decide +kernel) rfl rfl (Nat.le_of_ble_eq_true rfl) dX11_lookAgain_100 (fun H locs hP hD hS => ?_)
          have hP : va_P D vwCl [(mx, .inr (11, [.int ml, .int mw, .ref ms, .int mgl, .int mhd, .int mre, .int mag, .int mkt, .int mho, .int mpc, .int msd, .int mki, .ref mk, .ref ma, .ref mo, .ref mg, .ref mm, .ref mt, .int mdn, .int mun, .ref mn, .int t_99, .ref me, .ref mq, .int msv, .ref mwo, .ref md, .ref mf, .ref mr])), (mt, .inl (cB, 172241, .inl gs_)), (mn, .inl (cZ, 40, .inl (upd g (nI k).toNatClampNeg (vp_nar .boolean w))))] H := hP
          have hD : va_D A [(mx, .inr (11, [.int ml, .int mw, .ref ms, .int mgl, .int mhd, .int mre, .int mag, .int mkt, .int mho, .int mpc, .int msd, .int mki, .ref mk, .ref ma, .ref mo, .ref mg, .ref mm, .ref mt, .int mdn, .int mun, .ref mn, .int t_99, .ref me, .ref mq, .int msv, .ref mwo, .ref md, .ref mf, .ref mr])), (mt, .inl (cB, 172241, .inl gs_)), (mn, .inl (cZ, 40, .inl (upd g (nI k).toNatClampNeg (vp_nar .boolean w))))] := hD
          refine lv_iinc (v := nI (k + 1)) (lv' := [(1, .int (nI (k + 1))), (0, .ref mx)]) hx hb dX11_lookAgain_103 hl (k := 0) rfl (nI_1 _) (by decide) rfl (fun ls hl => ?_)
          refine lv_goto (tgt := 18) hx hb dX11_lookAgain_106 (by decide) ?_
          exact ih_18 ((k + 1), t_99, (upd g (nI k).toNatClampNeg (vp_nar .boolean w))) (by show ((k + 1) ≤ 40 ∧ 40 < (k + 1) + n_18 ∧ (k + 1) ≤ P_) ∧ (mdn.toInt = 0 → t_99 = -1) ∧ (0 < mdn.toInt → t_99 = nI (kt_ct kt_nz (upd g (nI k).toNatClampNeg (vp_nar .boolean w)) (k + 1))) ∧ ∀ p : Nat, p < (k + 1) → (¬ (upd g (nI k).toNatClampNeg (vp_nar .boolean w)) p = 0 ↔ 0 < mdn.toInt ∧ (¬ gs_ (41 * (mdn.toInt.toNat - 1) + p) = -1 ∧ gs_ (41 * mdn.toInt.toNat + p) = -1)); rw [nI_clamp (by omega), hwn]; first
                  | exact ⟨by omega, ht0, fun h => by rw [kt_ct_u0 (by unfold kt_nz; rw [← ea_89, c_90]; decide)]; exact ht1 h, fun p hp => if e : p = k then (by rw [e, pk_us]; exact hw.nz) else (by rw [pk_un e]; exact hla p (by omega))⟩
                  | exact ⟨by omega, fun h => absurd ((hw.t (by rw [← ea_89]; exact c_90)).1) (by omega), fun h => by rw [kt_ct_u1 (by unfold kt_nz; rw [← ea_89]; exact decide_eq_true c_90), et_99, ht1 h]; exact nI_1 _, fun p hp => if e : p = k then (by rw [e, pk_us]; exact hw.nz) else (by rw [pk_un e]; exact hla p (by omega))⟩) H _ hP hD hS ls (lv_sub hl [0, 1] rfl)
      refine lv_if_le (tgt := 82) hx hb dX11_lookAgain_35 (by decide) (fun c_35 => ?_) (fun c_35 => ?_)
      · have d_35 := c_35
        simp only [kt_lt, kt_le, kt_eq, kt_c0, kt_c1, kt_c2, kt_c3, kt_c4, kt_c8, kt_c9, kt_cm1, kt_c81, kt_c40, kt_c7, kt_c5, kt_c6, kt_c512, kt_c10, kt_c10000] at d_35
        refine lv_iconst (v := 0) hx hb dX11_lookAgain_82 (by decide) ?_
        exact j_83 (0 : Int32) (by show kt_B (0 : Int32) (0 < mdn.toInt ∧ (¬ gs_ (41 * (mdn.toInt.toNat - 1) + k) = -1 ∧ gs_ (41 * mdn.toInt.toNat + k) = -1)); first | exact Or.inr ⟨rfl, fun h => by omega⟩ | exact Or.inr ⟨rfl, fun h => h.2.1 (e54.symm.trans c_56)⟩ | exact Or.inr ⟨rfl, fun h => c_75 (e73.trans h.2.2)⟩ | exact Or.inl ⟨rfl, by omega, fun h => c_56 (e54.trans h), e73.symm.trans c_75⟩) H _ hP hD hS ls (lv_sub hl [0, 1] rfl)
      · have d_35 := c_35
        simp only [kt_lt, kt_le, kt_eq, kt_c0, kt_c1, kt_c2, kt_c3, kt_c4, kt_c8, kt_c9, kt_cm1, kt_c81, kt_c40, kt_c7, kt_c5, kt_c6, kt_c512, kt_c10, kt_c10000] at d_35
        refine lv_aload_n hx hb dX11_lookAgain_38 rfl (lv_at hl 1 rfl) ?_
        refine va_get (D := D) (ci := 11) (C := RX11) (T := TX11) (N := 29) hx hb hts iw_X11_lookAgain_X11 hown hK hP 0 rfl rfl 17 (by decide) (hts (.fieldLink RX11 43 "KingTableModel" "stood" "[B") (List.mem_cons_of_mem _ (List.mem_append_left _ (List.mem_cons_of_mem _ (List.mem_cons_of_mem _ (List.mem_cons_of_mem _ (List.mem_cons_of_mem _ (List.Mem.head _)))))))) (fun _ h9 => h9) rfl dX11_lookAgain_39 ?_
        refine lv_aload_n hx hb dX11_lookAgain_42 rfl (lv_at hl 1 rfl) ?_
        refine lv_aload_n hx hb dX11_lookAgain_43 rfl (lv_at hl 1 rfl) ?_
        refine va_get (D := D) (ci := 11) (C := RX11) (T := TX11) (N := 29) hx hb hts iw_X11_lookAgain_X11 hown hK hP 0 rfl rfl 18 (by decide) (hts (.fieldLink RX11 138 "KingTableModel" "done" "I") (List.mem_cons_of_mem _ (List.mem_append_left _ (List.Mem.head _)))) (fun _ h9 => h9) rfl dX11_lookAgain_44 ?_
        refine lv_iconst (v := 1) hx hb dX11_lookAgain_47 (by decide) ?_
        refine lv_isub hx hb dX11_lookAgain_48 ?_
        refine lv_topi (fun t_48 et_48 => ?_)
        first | have hk_48 := kt_subx et_48 (by first | omega | (simp only [kt_c0, kt_c1, kt_c2, kt_c3, kt_c4, kt_c8, kt_c9, kt_cm1, kt_c81, kt_c40, kt_c7, kt_c5, kt_c6, kt_c512, kt_c10, kt_c10000]; omega)) (by first | omega | (simp only [kt_c0, kt_c1, kt_c2, kt_c3, kt_c4, kt_c8, kt_c9, kt_cm1, kt_c81, kt_c40, kt_c7, kt_c5, kt_c6, kt_c512, kt_c10, kt_c10000]; omega)) | obtain ⟨k_48, hk_48, hm_48, hM_48⟩ := kt_subk et_48
        try simp only [kt_c0, kt_c1, kt_c2, kt_c3, kt_c4, kt_c8, kt_c9, kt_cm1, kt_c81, kt_c40, kt_c7, kt_c5, kt_c6, kt_c512, kt_c10, kt_c10000] at hk_48
        refine kt_pi (wc := [(mx, .inr (11, [.int ml, .int mw, .ref ms, .int mgl, .int mhd, .int mre, .int mag, .int mkt, .int mho, .int mpc, .int msd, .int mki, .ref mk, .ref ma, .ref mo, .ref mg, .ref mm, .ref mt, .int mdn, .int mun, .ref mn, .int tm, .ref me, .ref mq, .int msv, .ref mwo, .ref md, .ref mf, .ref mr]))]) [0] hP hD hS hA rfl (by decide) (fun hPc hDc => va_runV (As := [.int t_48]) (rest := [.ref mt, .int (nI k), .ref mn]) ⟨hx, hb, hml, hown, hts⟩ (c_X11_row l D cI cZ cB H.size mx ms mk ma mo mg mm mt mn me mq mwo md mf mr ml mw mgl mhd mre mag mkt mho mpc msd mki mdn mun tm msv t_48 (by first | assumption | omega | rfl | decide)) (cwV 1 hts gX11_lookAgain_X11_row rfl rfl rfl (by decide +kernel) ⟨Nat.le_of_ble_eq_true rfl, Nat.le_of_ble_eq_true rfl⟩) (kt_preV hN hK hPc hDc 0 (ci := 11) (q := (RX11, TX11, 29)) rfl rfl) rfl rfl hl.1 rfl (lv_room (Nat.le_of_ble_eq_true rfl)) dX11_lookAgain_49 ⟨Nat.le_of_ble_eq_true rfl, Nat.le_of_ble_eq_true rfl⟩) (fun r_49 _ H locs hw_49 hP hS => ?_)
        refine lv_iload_n hx hb dX11_lookAgain_52 rfl (lv_at hl 0 rfl) ?_
        refine lv_iadd hx hb dX11_lookAgain_53 ?_
        refine lv_topi (fun t_53 et_53 => ?_)
        first | have hk_53 := kt_addx et_53 (by first | omega | (simp only [kt_c0, kt_c1, kt_c2, kt_c3, kt_c4, kt_c8, kt_c9, kt_cm1, kt_c81, kt_c40, kt_c7, kt_c5, kt_c6, kt_c512, kt_c10, kt_c10000]; omega)) (by first | omega | (simp only [kt_c0, kt_c1, kt_c2, kt_c3, kt_c4, kt_c8, kt_c9, kt_cm1, kt_c81, kt_c40, kt_c7, kt_c5, kt_c6, kt_c512, kt_c10, kt_c10000]; omega)) | obtain ⟨k_53, hk_53, hm_53, hM_53⟩ := kt_addk et_53
        have hi_3 : vp_in t_53 172241 := by exact kt_in (by omega) (by omega)
        refine va_bald hx hb hK hP 1 2 rfl rfl hi_3 dX11_lookAgain_54 ?_
        refine lv_topi (fun a_54 ea_54 => ?_)
        have e54 : a_54 = gs_ (41 * (mdn.toInt.toNat - 1) + k) := by rw [ea_54, kt_clamp (n := 41 * (mdn.toInt.toNat - 1) + k) (by omega)]
        refine lv_iconst (v := (-1)) hx hb dX11_lookAgain_55 (by decide) ?_
        refine lv_icmp_eq (tgt := 82) hx hb dX11_lookAgain_56 (by decide) (fun c_56 => ?_) (fun c_56 => ?_)
        · have d_56 := c_56
          simp only [kt_lt, kt_le, kt_eq, kt_c0, kt_c1, kt_c2, kt_c3, kt_c4, kt_c8, kt_c9, kt_cm1, kt_c81, kt_c40, kt_c7, kt_c5, kt_c6, kt_c512, kt_c10, kt_c10000] at d_56
          refine lv_iconst (v := 0) hx hb dX11_lookAgain_82 (by decide) ?_
          exact j_83 (0 : Int32) (by show kt_B (0 : Int32) (0 < mdn.toInt ∧ (¬ gs_ (41 * (mdn.toInt.toNat - 1) + k) = -1 ∧ gs_ (41 * mdn.toInt.toNat + k) = -1)); first | exact Or.inr ⟨rfl, fun h => by omega⟩ | exact Or.inr ⟨rfl, fun h => h.2.1 (e54.symm.trans c_56)⟩ | exact Or.inr ⟨rfl, fun h => c_75 (e73.trans h.2.2)⟩ | exact Or.inl ⟨rfl, by omega, fun h => c_56 (e54.trans h), e73.symm.trans c_75⟩) H _ hP hD hS ls (lv_sub hl [0, 1] rfl)
        · have d_56 := c_56
          simp only [kt_lt, kt_le, kt_eq, kt_c0, kt_c1, kt_c2, kt_c3, kt_c4, kt_c8, kt_c9, kt_cm1, kt_c81, kt_c40, kt_c7, kt_c5, kt_c6, kt_c512, kt_c10, kt_c10000] at d_56
          refine lv_aload_n hx hb dX11_lookAgain_59 rfl (lv_at hl 1 rfl) ?_
          refine va_get (D := D) (ci := 11) (C := RX11) (T := TX11) (N := 29) hx hb hts iw_X11_lookAgain_X11 hown hK hP 0 rfl rfl 17 (by decide) (hts (.fieldLink RX11 43 "KingTableModel" "stood" "[B") (List.mem_cons_of_mem _ (List.mem_append_left _ (List.mem_cons_of_mem _ (List.mem_cons_of_mem _ (List.mem_cons_of_mem _ (List.mem_cons_of_mem _ (List.Mem.head _)))))))) (fun _ h9 => h9) rfl dX11_lookAgain_60 ?_
          refine lv_aload_n hx hb dX11_lookAgain_63 rfl (lv_at hl 1 rfl) ?_
          refine lv_aload_n hx hb dX11_lookAgain_64 rfl (lv_at hl 1 rfl) ?_
          refine va_get (D := D) (ci := 11) (C := RX11) (T := TX11) (N := 29) hx hb hts iw_X11_lookAgain_X11 hown hK hP 0 rfl rfl 18 (by decide) (hts (.fieldLink RX11 138 "KingTableModel" "done" "I") (List.mem_cons_of_mem _ (List.mem_append_left _ (List.Mem.head _)))) (fun _ h9 => h9) rfl dX11_lookAgain_65 ?_
          refine kt_pi (wc := [(mx, .inr (11, [.int ml, .int mw, .ref ms, .int mgl, .int mhd, .int mre, .int mag, .int mkt, .int mho, .int mpc, .int msd, .int mki, .ref mk, .ref ma, .ref mo, .ref mg, .ref mm, .ref mt, .int mdn, .int mun, .ref mn, .int tm, .ref me, .ref mq, .int msv, .ref mwo, .ref md, .ref mf, .ref mr]))]) [0] hP hD hS hA rfl (by decide) (fun hPc hDc => va_runV (As := [.int mdn]) (rest := [.ref mt, .int (nI k), .ref mn]) ⟨hx, hb, hml, hown, hts⟩ (c_X11_row l D cI cZ cB H.size mx ms mk ma mo mg mm mt mn me mq mwo md mf mr ml mw mgl mhd mre mag mkt mho mpc msd mki mdn mun tm msv mdn (by first | assumption | omega | rfl | decide)) (cwV 1 hts gX11_lookAgain_X11_row rfl rfl rfl (by decide +kernel) ⟨Nat.le_of_ble_eq_true rfl, Nat.le_of_ble_eq_true rfl⟩) (kt_preV hN hK hPc hDc 0 (ci := 11) (q := (RX11, TX11, 29)) rfl rfl) rfl rfl hl.1 rfl (lv_room (Nat.le_of_ble_eq_true rfl)) dX11_lookAgain_68 ⟨Nat.le_of_ble_eq_true rfl, Nat.le_of_ble_eq_true rfl⟩) (fun r_68 _ H locs hw_68 hP hS => ?_)
          refine lv_iload_n hx hb dX11_lookAgain_71 rfl (lv_at hl 0 rfl) ?_
          refine lv_iadd hx hb dX11_lookAgain_72 ?_
          refine lv_topi (fun t_72 et_72 => ?_)
          first | have hk_72 := kt_addx et_72 (by first | omega | (simp only [kt_c0, kt_c1, kt_c2, kt_c3, kt_c4, kt_c8, kt_c9, kt_cm1, kt_c81, kt_c40, kt_c7, kt_c5, kt_c6, kt_c512, kt_c10, kt_c10000]; omega)) (by first | omega | (simp only [kt_c0, kt_c1, kt_c2, kt_c3, kt_c4, kt_c8, kt_c9, kt_cm1, kt_c81, kt_c40, kt_c7, kt_c5, kt_c6, kt_c512, kt_c10, kt_c10000]; omega)) | obtain ⟨k_72, hk_72, hm_72, hM_72⟩ := kt_addk et_72
          have hi_4 : vp_in t_72 172241 := by exact kt_in (by omega) (by omega)
          refine va_bald hx hb hK hP 1 2 rfl rfl hi_4 dX11_lookAgain_73 ?_
          refine lv_topi (fun a_73 ea_73 => ?_)
          have e73 : a_73 = gs_ (41 * mdn.toInt.toNat + k) := by rw [ea_73, kt_clamp (n := 41 * mdn.toInt.toNat + k) (by omega)]
          refine lv_iconst (v := (-1)) hx hb dX11_lookAgain_74 (by decide) ?_
          refine lv_icmp_ne (tgt := 82) hx hb dX11_lookAgain_75 (by decide) (fun c_75 => ?_) (fun c_75 => ?_)
          · have d_75 := c_75
            simp only [kt_lt, kt_le, kt_eq, kt_c0, kt_c1, kt_c2, kt_c3, kt_c4, kt_c8, kt_c9, kt_cm1, kt_c81, kt_c40, kt_c7, kt_c5, kt_c6, kt_c512, kt_c10, kt_c10000] at d_75
            refine lv_iconst (v := 0) hx hb dX11_lookAgain_82 (by decide) ?_
            exact j_83 (0 : Int32) (by show kt_B (0 : Int32) (0 < mdn.toInt ∧ (¬ gs_ (41 * (mdn.toInt.toNat - 1) + k) = -1 ∧ gs_ (41 * mdn.toInt.toNat + k) = -1)); first | exact Or.inr ⟨rfl, fun h => by omega⟩ | exact Or.inr ⟨rfl, fun h => h.2.1 (e54.symm.trans c_56)⟩ | exact Or.inr ⟨rfl, fun h => c_75 (e73.trans h.2.2)⟩ | exact Or.inl ⟨rfl, by omega, fun h => c_56 (e54.trans h), e73.symm.trans c_75⟩) H _ hP hD hS ls (lv_sub hl [0, 1] rfl)
          · have d_75 := c_75
            simp only [kt_lt, kt_le, kt_eq, kt_c0, kt_c1, kt_c2, kt_c3, kt_c4, kt_c8, kt_c9, kt_cm1, kt_c81, kt_c40, kt_c7, kt_c5, kt_c6, kt_c512, kt_c10, kt_c10000] at d_75
            refine lv_iconst (v := 1) hx hb dX11_lookAgain_78 (by decide) ?_
            refine lv_goto (tgt := 83) hx hb dX11_lookAgain_79 (by decide) ?_
            exact j_83 (1 : Int32) (by show kt_B (1 : Int32) (0 < mdn.toInt ∧ (¬ gs_ (41 * (mdn.toInt.toNat - 1) + k) = -1 ∧ gs_ (41 * mdn.toInt.toNat + k) = -1)); first | exact Or.inr ⟨rfl, fun h => by omega⟩ | exact Or.inr ⟨rfl, fun h => h.2.1 (e54.symm.trans c_56)⟩ | exact Or.inr ⟨rfl, fun h => c_75 (e73.trans h.2.2)⟩ | exact Or.inl ⟨rfl, by omega, fun h => c_56 (e54.trans h), e73.symm.trans c_75⟩) H _ hP hD hS ls (lv_sub hl [0, 1] rfl)
  refine lv_if_ne (tgt := 12) hx hb dX11_lookAgain_5 (by decide) (fun c_5 => ?_) (fun c_5 => ?_)
  · have d_5 := c_5
    simp only [kt_lt, kt_le, kt_eq, kt_c0, kt_c1, kt_c2, kt_c3, kt_c4, kt_c8, kt_c9, kt_cm1, kt_c81, kt_c40, kt_c7, kt_c5, kt_c6, kt_c512, kt_c10, kt_c10000] at d_5
    refine lv_iconst (v := 0) hx hb dX11_lookAgain_12 (by decide) ?_
    exact j_13 (0 : Int32) (by show (mdn.toInt = 0 → (0 : Int32) = -1) ∧ (0 < mdn.toInt → (0 : Int32) = 0); first | exact ⟨fun _ => rfl, fun h => by exfalso; omega⟩ | exact ⟨fun h => by exfalso; omega, fun _ => rfl⟩) H _ hP hD hS ls (lv_sub hl [0] rfl)
  · have d_5 := c_5
    simp only [kt_lt, kt_le, kt_eq, kt_c0, kt_c1, kt_c2, kt_c3, kt_c4, kt_c8, kt_c9, kt_cm1, kt_c81, kt_c40, kt_c7, kt_c5, kt_c6, kt_c512, kt_c10, kt_c10000] at d_5
    refine lv_iconst (v := (-1)) hx hb dX11_lookAgain_8 (by decide) ?_
    refine lv_goto (tgt := 13) hx hb dX11_lookAgain_9 (by decide) ?_
    exact j_13 (-1 : Int32) (by show (mdn.toInt = 0 → (-1 : Int32) = -1) ∧ (0 < mdn.toInt → (-1 : Int32) = 0); first | exact ⟨fun _ => rfl, fun h => by exfalso; omega⟩ | exact ⟨fun h => by exfalso; omega, fun _ => rfl⟩) H _ hP hD hS ls (lv_sub hl [0] rfl)
