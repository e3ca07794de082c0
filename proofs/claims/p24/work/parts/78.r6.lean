/-! ===== the tallies ===== -/
def kt_mx (X Y : Nat → Int) (t : Int) : Nat → Int
  | 0 => -1
  | n + 1 => if X n = t then (if kt_mx X Y t n < Y n then Y n else kt_mx X Y t n) else kt_mx X Y t n
theorem kt_mx_s (X Y : Nat → Int) (t : Int) (n : Nat) : (X n = t → kt_mx X Y t (n + 1) = if kt_mx X Y t n < Y n then Y n else kt_mx X Y t n) ∧ (¬ X n = t → kt_mx X Y t (n + 1) = kt_mx X Y t n) := by
  constructor
  · intro h
    show (if X n = t then _ else _) = _
    rw [if_pos h]
  · intro h
    show (if X n = t then _ else _) = _
    rw [if_neg h]
def kt_TY (wo de : Nat → Int32) (n : Nat) (g1 g2 : Nat → Int32) : Prop := (∀ w sd : Nat, w ≤ 2 → sd ≤ 1 → (g1 (2 * w + sd)).toInt = ((kt_gc (fun s => (wo s).toInt = (w : Int) ∧ s % 2 = sd) n : Nat) : Int)) ∧ ∀ t : Nat, t ≤ 1 → (g2 t).toInt = kt_mx (fun s => (wo s).toInt) (fun s => (de s).toInt) (t : Int) n
theorem kt_TY.start {wo de : Nat → Int32} : kt_TY wo de 0 (fun _ => 0) (fun _ => -1) := ⟨fun w sd _ _ => rfl, fun t _ => rfl⟩
theorem kt_TY.none {wo de g1 g2 : Nat → Int32} {n : Nat} (h : kt_TY wo de n g1 g2) (hn : (wo n).toInt = -1) : kt_TY wo de (n + 1) g1 g2 := by
  refine ⟨fun w sd hw hs => ?_, fun t ht => ?_⟩
  · rw [(kt_gc_c (fun s => (wo s).toInt = (w : Int) ∧ s % 2 = sd) n).2 (fun h1 => by
      have h2 := h1.1
      omega)]
    exact h.1 w sd hw hs
  · rw [(kt_mx_s (fun s => (wo s).toInt) (fun s => (de s).toInt) (t : Int) n).2 (fun h1 => by
      have h2 : (wo n).toInt = (t : Int) := h1
      omega)]
    exact h.2 t ht
theorem kt_TY.tal {wo de g1 g2 : Nat → Int32} {n w0 i : Nat} {x : Int32} (h : kt_TY wo de n g1 g2) (hw0 : w0 ≤ 2) (hn : (wo n).toInt = (w0 : Int)) (hi : i = 2 * w0 + n % 2) (hx : x.toInt = (g1 i).toInt + 1) : ∀ w sd : Nat, w ≤ 2 → sd ≤ 1 → (upd g1 i x (2 * w + sd)).toInt = ((kt_gc (fun s => (wo s).toInt = (w : Int) ∧ s % 2 = sd) (n + 1) : Nat) : Int) := by
  intro w sd hw hs
  by_cases e : w = w0 ∧ n % 2 = sd
  · rw [(kt_gc_c (fun s => (wo s).toInt = (w : Int) ∧ s % 2 = sd) n).1 ⟨by rw [e.1]; exact hn, e.2⟩, show 2 * w + sd = i by omega, pk_us, hx, hi]
    have h1 := h.1 w0 (n % 2) hw0 (by omega)
    rw [h1, e.1, ← e.2]
    omega
  · rw [(kt_gc_c (fun s => (wo s).toInt = (w : Int) ∧ s % 2 = sd) n).2 (fun h1 => e (by
      have h2 := h1.1
      exact ⟨by omega, h1.2⟩)), pk_un (by omega)]
    exact h.1 w sd hw hs
theorem kt_TY.draw {wo de g1 g2 : Nat → Int32} {n i : Nat} {x : Int32} (h : kt_TY wo de n g1 g2) (hn : (wo n).toInt = 2) (hi : i = 4 + n % 2) (hx : x.toInt = (g1 i).toInt + 1) : kt_TY wo de (n + 1) (upd g1 i x) g2 := by
  refine ⟨h.tal (w0 := 2) (by omega) hn hi hx, fun t ht => ?_⟩
  rw [(kt_mx_s (fun s => (wo s).toInt) (fun s => (de s).toInt) (t : Int) n).2 (fun h1 => by
    have h2 : (wo n).toInt = (t : Int) := h1
    omega)]
  exact h.2 t ht
theorem kt_TY.win {wo de g1 g2 : Nat → Int32} {n i t0 : Nat} {x y : Int32} (h : kt_TY wo de n g1 g2) (ht0 : t0 ≤ 1) (hn : (wo n).toInt = (t0 : Int)) (hi : i = 2 * t0 + n % 2) (hx : x.toInt = (g1 i).toInt + 1) (hy : y.toInt = if (g2 t0).toInt < (de n).toInt then (de n).toInt else (g2 t0).toInt) : kt_TY wo de (n + 1) (upd g1 i x) (upd g2 t0 y) := by
  refine ⟨h.tal (w0 := t0) (by omega) hn hi hx, fun t ht => ?_⟩
  by_cases e : t = t0
  · rw [e, pk_us, (kt_mx_s (fun s => (wo s).toInt) (fun s => (de s).toInt) (t0 : Int) n).1 hn, hy, h.2 t0 ht0]
  · rw [pk_un e, (kt_mx_s (fun s => (wo s).toInt) (fun s => (de s).toInt) (t : Int) n).2 (fun h1 => by
      have h2 : (wo n).toInt = (t : Int) := h1
      omega)]
    exact h.2 t ht
/-- the class's tables once a board is solved -/
def kt_SV (B P kg : Nat) (w L : Int) (fr fk : Nat → Int32) (re : Int) (lg lt lh pp : Int32) (fp wo de ta ga : Nat → Int32) : Prop :=
  pp.toInt = ((B ^ P : Nat) : Int) ∧ (∀ p, p < P → (fp p).toInt = ((B ^ p : Nat) : Int)) ∧ B ^ P ≤ 5000 ∧ (∀ s, s < 2 * B ^ P → kt_sol (-1) (kt_ev B P w L fr fk re lg kg) (kt_ed B P w L fr fk re lt lh) (fun s => (wo s).toInt) (fun s => (de s).toInt) s) ∧ kt_TY wo de (2 * B ^ P) ta ga

set_option maxHeartbeats 4000000 in
set_option maxRecDepth 100000 in
theorem c_X7_tallyUpE (l : Launch) (D : va_G) (cI cZ cB : ClassId) (sz : Nat) (so : Nat) (ru : Nat) (tr : Nat) (lk : Nat) (vp : Nat) (vd : Nat) (vt : Nat) (vg : Nat) (vw : Nat) (ve : Nat) (vo : Nat) (vq : Nat) (qd : Int32) (pp : Int32) (ct : Int32) (sv : Int32) (LW : Nat) (LH : Nat) (LS : Nat) (LQ : Nat) (ta : Nat → Int32) (ga : Nat → Int32) (wo : Nat → Int32) (de : Nat → Int32) (hlw : LW ≤ 10000) (hlh : LH ≤ 10000) (hls : LS ≤ 4000000) (hlq : LQ ≤ LW ∧ LQ ≤ LH) (hwo : kt_r wo LW (-1) 2) (hpp : 0 ≤ pp.toInt ∧ 2 * pp.toInt ≤ (LQ : Int)) : kt_Mv l yX7_tallyUp wsX7_tallyUp { frames := 1, cells := 0, slots := 0, locals := 23 } D (kt_ty cI cZ cB) [.ref so] sz [(so, .inr (7, [.ref ru, .ref tr, .ref lk, .ref vp, .ref vd, .ref vt, .ref vg, .ref vw, .ref ve, .ref vo, .ref vq, .int qd, .int pp, .int ct, .int sv])), (vt, .inl (cI, 6, .inl ta)), (vg, .inl (cI, 2, .inl ga)), (vw, .inl (cI, LW, .inl wo)), (ve, .inl (cI, LW, .inl de))] (fun (u : (Nat → Int32) × (Nat → Int32)) => kt_TY wo de (2 * pp.toInt.toNat) u.1 u.2) (fun (u : (Nat → Int32) × (Nat → Int32)) => [(so, .inr (7, [.ref ru, .ref tr, .ref lk, .ref vp, .ref vd, .ref vt, .ref vg, .ref vw, .ref ve, .ref vo, .ref vq, .int qd, .int pp, .int ct, .int sv])), (vt, .inl (cI, 6, .inl u.1)), (vg, .inl (cI, 2, .inl u.2)), (vw, .inl (cI, LW, .inl wo)), (ve, .inl (cI, LW, .inl de))]) 0 0 := by
  refine kt_Mv.of (cc := cX7_tallyUp) (maxL := 3) (ret := none) (by decide) rfl (Nat.le_of_ble_eq_true rfl) ?_
  intro p e s m below meth c A ls H hAt hP hD hS hl
  obtain ⟨hx, hb, hr, hml, hown, hts, hN, hK, hlk, hnm, hA⟩ := hAt
  have hl : lv_has ls 3 [(0, .ref so)] := hl
  have hown : s.vm.findClass RX7 = some m.cls := hown
  refine lv_aload_n hx hb dX7_tallyUp_0 rfl (lv_at hl 0 rfl) ?_
  refine va_get (D := D) (ci := 7) (C := RX7) (T := TX7) (N := 15) hx hb hts iw_X7_tallyUp_X7 hown hK hP 0 rfl rfl 5 (by decide) (hts (.fieldLink RX7 32 "KingTable$Solver" "tallies" "[I") (List.mem_cons_of_mem _ (List.mem_append_left _ (List.Mem.head _)))) (fun _ h9 => h9) rfl dX7_tallyUp_1 ?_
  refine lv_iconst (v := 0) hx hb dX7_tallyUp_4 (by decide) ?_
  refine kt_bv (wc := [(vt, .inl (cI, 6, .inl ta))]) (wr := [(so, .inr (7, [.ref ru, .ref tr, .ref lk, .ref vp, .ref vd, .ref vt, .ref vg, .ref vw, .ref ve, .ref vo, .ref vq, .int qd, .int pp, .int ct, .int sv])), (vg, .inl (cI, 2, .inl ga)), (vw, .inl (cI, LW, .inl wo)), (ve, .inl (cI, LW, .inl de))]) [1] [0, 2, 3, 4] hP hD hS hA rfl rfl (by decide) (by decide) (by decide) (fun hPc hDc => va_runS (As := [.ref vt, .int 0]) (rest := []) ⟨hx, hb, hml, hown, hts⟩ (c_fill l D cI cZ cB H.size vt 6 ta 0 (by decide)) (va_cwS 2 hts gX7_tallyUp_J7_fill_53178 rfl rfl rfl (by decide +kernel) ⟨Nat.le_of_ble_eq_true rfl, Nat.le_of_ble_eq_true rfl⟩) (kt_preS hN hK hPc hDc) rfl rfl hl.1 rfl (lv_room (Nat.le_of_ble_eq_true rfl)) dX7_tallyUp_5 ⟨Nat.le_of_ble_eq_true rfl, Nat.le_of_ble_eq_true rfl⟩) (fun u_ H locs hw_5 hP hD hS => ?_)
  have hP : va_P D vwCl [(so, .inr (7, [.ref ru, .ref tr, .ref lk, .ref vp, .ref vd, .ref vt, .ref vg, .ref vw, .ref ve, .ref vo, .ref vq, .int qd, .int pp, .int ct, .int sv])), (vt, .inl (cI, 6, .inl (fun _ => 0))), (vg, .inl (cI, 2, .inl ga)), (vw, .inl (cI, LW, .inl wo)), (ve, .inl (cI, LW, .inl de))] H := hP.sub [0, 4, 1, 2, 3] rfl
  have hD : va_D A [(so, .inr (7, [.ref ru, .ref tr, .ref lk, .ref vp, .ref vd, .ref vt, .ref vg, .ref vw, .ref ve, .ref vo, .ref vq, .int qd, .int pp, .int ct, .int sv])), (vt, .inl (cI, 6, .inl (fun _ => 0))), (vg, .inl (cI, 2, .inl ga)), (vw, .inl (cI, LW, .inl wo)), (ve, .inl (cI, LW, .inl de))] := hD.sub [0, 4, 1, 2, 3] (by decide) rfl
  refine lv_aload_n hx hb dX7_tallyUp_8 rfl (lv_at hl 0 rfl) ?_
  refine va_get (D := D) (ci := 7) (C := RX7) (T := TX7) (N := 15) hx hb hts iw_X7_tallyUp_X7 hown hK hP 0 rfl rfl 6 (by decide) (hts (.fieldLink RX7 35 "KingTable$Solver" "greatest" "[I") (List.mem_cons_of_mem _ (List.mem_append_left _ (List.mem_cons_of_mem _ (List.Mem.head _))))) (fun _ h9 => h9) rfl dX7_tallyUp_9 ?_
  refine lv_iconst (v := (-1)) hx hb dX7_tallyUp_12 (by decide) ?_
  refine kt_bv (wc := [(vg, .inl (cI, 2, .inl ga))]) (wr := [(so, .inr (7, [.ref ru, .ref tr, .ref lk, .ref vp, .ref vd, .ref vt, .ref vg, .ref vw, .ref ve, .ref vo, .ref vq, .int qd, .int pp, .int ct, .int sv])), (vt, .inl (cI, 6, .inl (fun _ => 0))), (vw, .inl (cI, LW, .inl wo)), (ve, .inl (cI, LW, .inl de))]) [2] [0, 1, 3, 4] hP hD hS hA rfl rfl (by decide) (by decide) (by decide) (fun hPc hDc => va_runS (As := [.ref vg, .int (-1)]) (rest := []) ⟨hx, hb, hml, hown, hts⟩ (c_fill l D cI cZ cB H.size vg 2 ga (-1) (by decide)) (va_cwS 2 hts gX7_tallyUp_J7_fill_53178 rfl rfl rfl (by decide +kernel) ⟨Nat.le_of_ble_eq_true rfl, Nat.le_of_ble_eq_true rfl⟩) (kt_preS hN hK hPc hDc) rfl rfl hl.1 rfl (lv_room (Nat.le_of_ble_eq_true rfl)) dX7_tallyUp_13 ⟨Nat.le_of_ble_eq_true rfl, Nat.le_of_ble_eq_true rfl⟩) (fun u_ H locs hw_13 hP hD hS => ?_)
  have hP : va_P D vwCl [(so, .inr (7, [.ref ru, .ref tr, .ref lk, .ref vp, .ref vd, .ref vt, .ref vg, .ref vw, .ref ve, .ref vo, .ref vq, .int qd, .int pp, .int ct, .int sv])), (vt, .inl (cI, 6, .inl (fun _ => 0))), (vg, .inl (cI, 2, .inl (fun _ => (-1)))), (vw, .inl (cI, LW, .inl wo)), (ve, .inl (cI, LW, .inl de))] H := hP.sub [0, 1, 4, 2, 3] rfl
  have hD : va_D A [(so, .inr (7, [.ref ru, .ref tr, .ref lk, .ref vp, .ref vd, .ref vt, .ref vg, .ref vw, .ref ve, .ref vo, .ref vq, .int qd, .int pp, .int ct, .int sv])), (vt, .inl (cI, 6, .inl (fun _ => 0))), (vg, .inl (cI, 2, .inl (fun _ => (-1)))), (vw, .inl (cI, LW, .inl wo)), (ve, .inl (cI, LW, .inl de))] := hD.sub [0, 1, 4, 2, 3] (by decide) rfl
  refine lv_iconst (v := 0) hx hb dX7_tallyUp_16 (by decide) ?_
  refine lv_istore_n (lv' := [(1, .int 0), (0, .ref so)]) hx hb dX7_tallyUp_17 rfl hl (by decide) rfl (fun ls hl => ?_)
  refine kt_loop (σ := Int32 × (Nat → Int32) × (Nat → Int32)) 18 3 (fun u => [(so, .inr (7, [.ref ru, .ref tr, .ref lk, .ref vp, .ref vd, .ref vt, .ref vg, .ref vw, .ref ve, .ref vo, .ref vq, .int qd, .int pp, .int ct, .int sv])), (vt, .inl (cI, 6, .inl u.2.1)), (vg, .inl (cI, 2, .inl u.2.2)), (vw, .inl (cI, LW, .inl wo)), (ve, .inl (cI, LW, .inl de))]) (fun u => [(1, .int u.1), (0, .ref so)]) (fun n u => (0 ≤ u.1.toInt ∧ u.1.toInt ≤ 2 * pp.toInt ∧ (LQ : Int) < u.1.toInt + n) ∧ kt_TY wo de u.1.toInt.toNat u.2.1 u.2.2) (fun u h => by omega) (fun n_18 ih_18 u hI H locs hP hD hS ls hl => ?_) (LQ + 1) ((0 : Int32), (fun _ => 0), (fun _ => (-1))) (by show (0 ≤ (0 : Int32).toInt ∧ (0 : Int32).toInt ≤ 2 * pp.toInt ∧ (LQ : Int) < (0 : Int32).toInt + (LQ + 1)) ∧ kt_TY wo de (0 : Int32).toInt.toNat (fun _ => 0) (fun _ => (-1)); exact ⟨⟨by decide, by rw [kt_c0]; omega, by rw [kt_c0]; omega⟩, by rw [show (0 : Int32).toInt.toNat = 0 by decide]; exact kt_TY.start⟩) hP hD hS (lv_sub hl [0, 1] rfl)
  obtain ⟨s_, g1, g2⟩ := u
  have hP : va_P D vwCl [(so, .inr (7, [.ref ru, .ref tr, .ref lk, .ref vp, .ref vd, .ref vt, .ref vg, .ref vw, .ref ve, .ref vo, .ref vq, .int qd, .int pp, .int ct, .int sv])), (vt, .inl (cI, 6, .inl g1)), (vg, .inl (cI, 2, .inl g2)), (vw, .inl (cI, LW, .inl wo)), (ve, .inl (cI, LW, .inl de))] H := hP
  have hD : va_D A [(so, .inr (7, [.ref ru, .ref tr, .ref lk, .ref vp, .ref vd, .ref vt, .ref vg, .ref vw, .ref ve, .ref vo, .ref vq, .int qd, .int pp, .int ct, .int sv])), (vt, .inl (cI, 6, .inl g1)), (vg, .inl (cI, 2, .inl g2)), (vw, .inl (cI, LW, .inl wo)), (ve, .inl (cI, LW, .inl de))] := hD
  have hl : lv_has ls 3 [(1, .int s_), (0, .ref so)] := hl
  have hI : (0 ≤ s_.toInt ∧ s_.toInt ≤ 2 * pp.toInt ∧ (LQ : Int) < s_.toInt + (n_18 + 1)) ∧ kt_TY wo de s_.toInt.toNat g1 g2 := hI
  obtain ⟨hsb, hty⟩ := hI
  refine lv_iload_n hx hb dX7_tallyUp_18 rfl (lv_at hl 0 rfl) ?_
  refine lv_iconst (v := 2) hx hb dX7_tallyUp_19 (by decide) ?_
  refine lv_aload_n hx hb dX7_tallyUp_20 rfl (lv_at hl 1 rfl) ?_
  refine va_get (D := D) (ci := 7) (C := RX7) (T := TX7) (N := 15) hx hb hts iw_X7_tallyUp_X7 hown hK hP 0 rfl rfl 12 (by decide) (hts (.fieldLink RX7 66 "KingTable$Solver" "places" "I") (List.mem_cons_of_mem _ (List.mem_append_left _ (List.mem_cons_of_mem _ (List.mem_cons_of_mem _ (List.Mem.head _)))))) (fun _ h9 => h9) rfl dX7_tallyUp_21 ?_
  refine lv_imul hx hb dX7_tallyUp_24 ?_
  refine lv_topi (fun t_24 et_24 => ?_)
  obtain ⟨k_24, hk_24, hm_24, hM_24⟩ := kt_mulk (C := 2) (et_24.trans (Int32.mul_comm _ _)) (by decide)
  try simp only [kt_c0, kt_c1, kt_c2, kt_c3, kt_c4, kt_c8, kt_c9, kt_cm1, kt_c81, kt_c40, kt_c7, kt_c5, kt_c6, kt_c512, kt_c10, kt_c10000] at hk_24
  refine lv_icmp_ge (tgt := 91) hx hb dX7_tallyUp_25 (by decide) (fun c_25 => ?_) (fun c_25 => ?_)
  · have d_25 := c_25
    simp only [kt_lt, kt_le, kt_eq, kt_c0, kt_c1, kt_c2, kt_c3, kt_c4, kt_c8, kt_c9, kt_cm1, kt_c81, kt_c40, kt_c7, kt_c5, kt_c6, kt_c512, kt_c10, kt_c10000] at d_25
    exact kt_rv (g1, g2) hx hb hr hlk hS dX7_tallyUp_91 hP hD (by show kt_TY wo de (2 * pp.toInt.toNat) g1 g2; (have hsn : s_.toInt.toNat = 2 * pp.toInt.toNat := by omega); (rw [hsn] at hty); exact hty)
  · have d_25 := c_25
    simp only [kt_lt, kt_le, kt_eq, kt_c0, kt_c1, kt_c2, kt_c3, kt_c4, kt_c8, kt_c9, kt_cm1, kt_c81, kt_c40, kt_c7, kt_c5, kt_c6, kt_c512, kt_c10, kt_c10000] at d_25
    refine lv_aload_n hx hb dX7_tallyUp_28 rfl (lv_at hl 1 rfl) ?_
    refine va_get (D := D) (ci := 7) (C := RX7) (T := TX7) (N := 15) hx hb hts iw_X7_tallyUp_X7 hown hK hP 0 rfl rfl 7 (by decide) (hts (.fieldLink RX7 38 "KingTable$Solver" "worths" "[I") (List.mem_cons_of_mem _ (List.mem_append_left _ (List.mem_cons_of_mem _ (List.mem_cons_of_mem _ (List.mem_cons_of_mem _ (List.Mem.head _))))))) (fun _ h9 => h9) rfl dX7_tallyUp_29 ?_
    refine lv_iload_n hx hb dX7_tallyUp_32 rfl (lv_at hl 0 rfl) ?_
    have hi_1 : vp_in s_ LW := by exact kt_in (by omega) (by omega)
    refine va_iald hx hb hK hP 3 0 rfl rfl hi_1 dX7_tallyUp_33 ?_
    refine lv_topi (fun a_33 ea_33 => ?_)
    have ra_33 := hwo.get hi_1
    rw [← ea_33] at ra_33
    have i33 : a_33.toInt = (wo s_.toInt.toNat).toInt := congrArg Int32.toInt ea_33
    refine lv_istore_n (lv' := [(2, .int a_33), (1, .int s_), (0, .ref so)]) hx hb dX7_tallyUp_34 rfl hl (by decide) rfl (fun ls hl => ?_)
    refine lv_iload_n hx hb dX7_tallyUp_35 rfl (lv_at hl 0 rfl) ?_
    refine lv_iconst (v := (-1)) hx hb dX7_tallyUp_36 (by decide) ?_
    refine kt_join (σ := (Nat → Int32) × (Nat → Int32)) 85 3 (fun u => [(so, .inr (7, [.ref ru, .ref tr, .ref lk, .ref vp, .ref vd, .ref vt, .ref vg, .ref vw, .ref ve, .ref vo, .ref vq, .int qd, .int pp, .int ct, .int sv])), (vt, .inl (cI, 6, .inl u.1)), (vg, .inl (cI, 2, .inl u.2)), (vw, .inl (cI, LW, .inl wo)), (ve, .inl (cI, LW, .inl de))]) (fun u => [(2, .int a_33), (1, .int s_), (0, .ref so)]) (fun u => []) (fun u => kt_TY wo de (s_.toInt.toNat + 1) u.1 u.2) (D := D) (A := A) (H0 := s.heap) (fun u hI H locs hP hD hS ls hl => ?_) (fun j_85 => ?_)
    · obtain ⟨h1, h2⟩ := u
      have hP : va_P D vwCl [(so, .inr (7, [.ref ru, .ref tr, .ref lk, .ref vp, .ref vd, .ref vt, .ref vg, .ref vw, .ref ve, .ref vo, .ref vq, .int qd, .int pp, .int ct, .int sv])), (vt, .inl (cI, 6, .inl h1)), (vg, .inl (cI, 2, .inl h2)), (vw, .inl (cI, LW, .inl wo)), (ve, .inl (cI, LW, .inl de))] H := hP
      have hD : va_D A [(so, .inr (7, [.ref ru, .ref tr, .ref lk, .ref vp, .ref vd, .ref vt, .ref vg, .ref vw, .ref ve, .ref vo, .ref vq, .int qd, .int pp, .int ct, .int sv])), (vt, .inl (cI, 6, .inl h1)), (vg, .inl (cI, 2, .inl h2)), (vw, .inl (cI, LW, .inl wo)), (ve, .inl (cI, LW, .inl de))] := hD
      have hl : lv_has ls 3 [(2, .int a_33), (1, .int s_), (0, .ref so)] := hl
      have hI : kt_TY wo de (s_.toInt.toNat + 1) h1 h2 := hI
      have hty2 := hI
      obtain ⟨t_85, et_85⟩ : ∃ y : Int32, y = s_ + 1 := ⟨_, rfl⟩
      obtain ⟨k_85, hk_85, hm_85, hM_85⟩ := kt_addk et_85
      try simp only [kt_c0, kt_c1, kt_c2, kt_c3, kt_c4, kt_c8, kt_c9, kt_cm1, kt_c81, kt_c40, kt_c7, kt_c5, kt_c6, kt_c512, kt_c10, kt_c10000] at hk_85
      refine lv_iinc (v := t_85) (lv' := [(1, .int t_85), (2, .int a_33), (0, .ref so)]) hx hb dX7_tallyUp_85 hl (k := 1) rfl (by rw [et_85]; rfl) (by decide) rfl (fun ls hl => ?_)
      refine lv_goto (tgt := 18) hx hb dX7_tallyUp_88 (by decide) ?_
      exact ih_18 (t_85, h1, h2) (by show (0 ≤ t_85.toInt ∧ t_85.toInt ≤ 2 * pp.toInt ∧ (LQ : Int) < t_85.toInt + n_18) ∧ kt_TY wo de t_85.toInt.toNat h1 h2; exact ⟨by omega, by rw [show t_85.toInt.toNat = s_.toInt.toNat + 1 by omega]; exact hty2⟩) H _ hP hD hS ls (lv_sub hl [0, 2] rfl)
    refine lv_icmp_ne (tgt := 43) hx hb dX7_tallyUp_37 (by decide) (fun c_37 => ?_) (fun c_37 => ?_)
    · have d_37 := c_37
      simp only [kt_lt, kt_le, kt_eq, kt_c0, kt_c1, kt_c2, kt_c3, kt_c4, kt_c8, kt_c9, kt_cm1, kt_c81, kt_c40, kt_c7, kt_c5, kt_c6, kt_c512, kt_c10, kt_c10000] at d_37
      refine lv_aload_n hx hb dX7_tallyUp_43 rfl (lv_at hl 2 rfl) ?_
      refine va_get (D := D) (ci := 7) (C := RX7) (T := TX7) (N := 15) hx hb hts iw_X7_tallyUp_X7 hown hK hP 0 rfl rfl 5 (by decide) (hts (.fieldLink RX7 32 "KingTable$Solver" "tallies" "[I") (List.mem_cons_of_mem _ (List.mem_append_left _ (List.Mem.head _)))) (fun _ h9 => h9) rfl dX7_tallyUp_44 ?_
      refine lv_iload_n hx hb dX7_tallyUp_47 rfl (lv_at hl 0 rfl) ?_
      refine lv_iconst (v := 2) hx hb dX7_tallyUp_48 (by decide) ?_
      refine lv_imul hx hb dX7_tallyUp_49 ?_
      refine lv_topi (fun t_49 et_49 => ?_)
      obtain ⟨k_49, hk_49, hm_49, hM_49⟩ := kt_mulk (C := 2) et_49 (by decide)
      try simp only [kt_c0, kt_c1, kt_c2, kt_c3, kt_c4, kt_c8, kt_c9, kt_cm1, kt_c81, kt_c40, kt_c7, kt_c5, kt_c6, kt_c512, kt_c10, kt_c10000] at hk_49
      refine lv_iload_n hx hb dX7_tallyUp_50 rfl (lv_at hl 1 rfl) ?_
      refine lv_iconst (v := 1) hx hb dX7_tallyUp_51 (by decide) ?_
      refine lv_iand hx hb dX7_tallyUp_52 ?_
      refine lv_topi (fun t_52 et_52 => ?_)
      have ha_52 : 0 ≤ t_52.toInt ∧ t_52.toInt ≤ 1 := by rw [et_52]; exact kt_and1 _
      have e52 : t_52.toInt = s_.toInt % 2 := by rw [et_52, kt_and1m (by omega)]
      refine lv_iadd hx hb dX7_tallyUp_53 ?_
      refine lv_topi (fun t_53 et_53 => ?_)
      first | have hk_53 := kt_addx et_53 (by first | omega | (simp only [kt_c0, kt_c1, kt_c2, kt_c3, kt_c4, kt_c8, kt_c9, kt_cm1, kt_c81, kt_c40, kt_c7, kt_c5, kt_c6, kt_c512, kt_c10, kt_c10000]; omega)) (by first | omega | (simp only [kt_c0, kt_c1, kt_c2, kt_c3, kt_c4, kt_c8, kt_c9, kt_cm1, kt_c81, kt_c40, kt_c7, kt_c5, kt_c6, kt_c512, kt_c10, kt_c10000]; omega)) | obtain ⟨k_53, hk_53, hm_53, hM_53⟩ := kt_addk et_53
      have hix : t_53.toNatClampNeg = 2 * a_33.toInt.toNat + s_.toInt.toNat % 2 := by
        show t_53.toInt.toNat = _
        omega
      have hgt := hty.1 a_33.toInt.toNat (s_.toInt.toNat % 2) (by omega) (by omega)
      have hgl := kt_gc_le (fun s => (wo s).toInt = ((a_33.toInt.toNat : Nat) : Int) ∧ s % 2 = s_.toInt.toNat % 2) s_.toInt.toNat
      refine lv_dup2_11 hx hb dX7_tallyUp_54 rfl rfl ?_
      have hi_2 : vp_in t_53 6 := by exact kt_in (by omega) (by omega)
      refine va_iald hx hb hK hP 1 0 rfl rfl hi_2 dX7_tallyUp_55 ?_
      refine lv_topi (fun a_55 ea_55 => ?_)
      have i55 : a_55.toInt = (g1 (2 * a_33.toInt.toNat + s_.toInt.toNat % 2)).toInt := by rw [ea_55, hix]
      refine lv_iconst (v := 1) hx hb dX7_tallyUp_56 (by decide) ?_
      refine lv_iadd hx hb dX7_tallyUp_57 ?_
      refine lv_topi (fun t_57 et_57 => ?_)
      first | have hk_57 := kt_addx et_57 (by first | omega | (simp only [kt_c0, kt_c1, kt_c2, kt_c3, kt_c4, kt_c8, kt_c9, kt_cm1, kt_c81, kt_c40, kt_c7, kt_c5, kt_c6, kt_c512, kt_c10, kt_c10000]; omega)) (by first | omega | (simp only [kt_c0, kt_c1, kt_c2, kt_c3, kt_c4, kt_c8, kt_c9, kt_cm1, kt_c81, kt_c40, kt_c7, kt_c5, kt_c6, kt_c512, kt_c10, kt_c10000]; omega)) | obtain ⟨k_57, hk_57, hm_57, hM_57⟩ := kt_addk et_57
      try simp only [kt_c0, kt_c1, kt_c2, kt_c3, kt_c4, kt_c8, kt_c9, kt_cm1, kt_c81, kt_c40, kt_c7, kt_c5, kt_c6, kt_c512, kt_c10, kt_c10000] at hk_57
      have hx57 : t_57.toInt = (g1 t_53.toNatClampNeg).toInt + 1 := by rw [hix]; omega
      have hi_3 : vp_in t_53 6 := by exact kt_in (by omega) (by omega)
      refine va_iast hx hb hK hP hD hS 1 0 rfl rfl hi_3 dX7_tallyUp_58 (fun H locs hP hD hS => ?_)
      have hP : va_P D vwCl [(so, .inr (7, [.ref ru, .ref tr, .ref lk, .ref vp, .ref vd, .ref vt, .ref vg, .ref vw, .ref ve, .ref vo, .ref vq, .int qd, .int pp, .int ct, .int sv])), (vt, .inl (cI, 6, .inl (upd g1 t_53.toNatClampNeg t_57))), (vg, .inl (cI, 2, .inl g2)), (vw, .inl (cI, LW, .inl wo)), (ve, .inl (cI, LW, .inl de))] H := hP
      have hD : va_D A [(so, .inr (7, [.ref ru, .ref tr, .ref lk, .ref vp, .ref vd, .ref vt, .ref vg, .ref vw, .ref ve, .ref vo, .ref vq, .int qd, .int pp, .int ct, .int sv])), (vt, .inl (cI, 6, .inl (upd g1 t_53.toNatClampNeg t_57))), (vg, .inl (cI, 2, .inl g2)), (vw, .inl (cI, LW, .inl wo)), (ve, .inl (cI, LW, .inl de))] := hD
      refine lv_iload_n hx hb dX7_tallyUp_59 rfl (lv_at hl 0 rfl) ?_
      refine lv_iconst (v := 2) hx hb dX7_tallyUp_60 (by decide) ?_
      refine lv_icmp_eq (tgt := 85) hx hb dX7_tallyUp_61 (by decide) (fun c_61 => ?_) (fun c_61 => ?_)
      · have d_61 := c_61
        simp only [kt_lt, kt_le, kt_eq, kt_c0, kt_c1, kt_c2, kt_c3, kt_c4, kt_c8, kt_c9, kt_cm1, kt_c81, kt_c40, kt_c7, kt_c5, kt_c6, kt_c512, kt_c10, kt_c10000] at d_61
        exact j_85 ((upd g1 t_53.toNatClampNeg t_57), g2) (by show kt_TY wo de (s_.toInt.toNat + 1) (upd g1 t_53.toNatClampNeg t_57) g2; first
                | exact hty.none (by omega)
                | (rw [hix]; exact hty.draw (by omega) (by omega) (by rw [← hix]; exact hx57))
                | (rw [hix, htx]; exact hty.win (by omega) (by omega) (by omega) (by rw [← hix]; exact hx57) (by rw [kt_mm, ← htx, ← i74, ← i80]))) H _ hP hD hS ls (lv_sub hl [0, 1, 2] rfl)
      · have d_61 := c_61
        simp only [kt_lt, kt_le, kt_eq, kt_c0, kt_c1, kt_c2, kt_c3, kt_c4, kt_c8, kt_c9, kt_cm1, kt_c81, kt_c40, kt_c7, kt_c5, kt_c6, kt_c512, kt_c10, kt_c10000] at d_61
        refine lv_aload_n hx hb dX7_tallyUp_64 rfl (lv_at hl 2 rfl) ?_
        refine va_get (D := D) (ci := 7) (C := RX7) (T := TX7) (N := 15) hx hb hts iw_X7_tallyUp_X7 hown hK hP 0 rfl rfl 6 (by decide) (hts (.fieldLink RX7 35 "KingTable$Solver" "greatest" "[I") (List.mem_cons_of_mem _ (List.mem_append_left _ (List.mem_cons_of_mem _ (List.Mem.head _))))) (fun _ h9 => h9) rfl dX7_tallyUp_65 ?_
        refine lv_iload_n hx hb dX7_tallyUp_68 rfl (lv_at hl 0 rfl) ?_
        refine lv_aload_n hx hb dX7_tallyUp_69 rfl (lv_at hl 2 rfl) ?_
        refine va_get (D := D) (ci := 7) (C := RX7) (T := TX7) (N := 15) hx hb hts iw_X7_tallyUp_X7 hown hK hP 0 rfl rfl 6 (by decide) (hts (.fieldLink RX7 35 "KingTable$Solver" "greatest" "[I") (List.mem_cons_of_mem _ (List.mem_append_left _ (List.mem_cons_of_mem _ (List.Mem.head _))))) (fun _ h9 => h9) rfl dX7_tallyUp_70 ?_
        refine lv_iload_n hx hb dX7_tallyUp_73 rfl (lv_at hl 0 rfl) ?_
        have hi_4 : vp_in a_33 2 := by exact kt_in (by omega) (by omega)
        refine va_iald hx hb hK hP 2 0 rfl rfl hi_4 dX7_tallyUp_74 ?_
        refine lv_topi (fun a_74 ea_74 => ?_)
        have htx : a_33.toNatClampNeg = a_33.toInt.toNat := rfl
        have i74 : a_74.toInt = (g2 a_33.toNatClampNeg).toInt := congrArg Int32.toInt ea_74
        refine lv_aload_n hx hb dX7_tallyUp_75 rfl (lv_at hl 2 rfl) ?_
        refine va_get (D := D) (ci := 7) (C := RX7) (T := TX7) (N := 15) hx hb hts iw_X7_tallyUp_X7 hown hK hP 0 rfl rfl 8 (by decide) (hts (.fieldLink RX7 41 "KingTable$Solver" "deeps" "[I") (List.mem_cons_of_mem _ (List.mem_append_left _ (List.mem_cons_of_mem _ (List.mem_cons_of_mem _ (List.mem_cons_of_mem _ (List.mem_cons_of_mem _ (List.Mem.head _)))))))) (fun _ h9 => h9) rfl dX7_tallyUp_76 ?_
        refine lv_iload_n hx hb dX7_tallyUp_79 rfl (lv_at hl 1 rfl) ?_
        have hi_5 : vp_in s_ LW := by exact kt_in (by omega) (by omega)
        refine va_iald hx hb hK hP 4 0 rfl rfl hi_5 dX7_tallyUp_80 ?_
        refine lv_topi (fun a_80 ea_80 => ?_)
        have i80 : a_80.toInt = (de s_.toInt.toNat).toInt := congrArg Int32.toInt ea_80
        refine va_mmax hx hb (by rw [hml]; exact hl.1.symm) hown (hts (.methodLink RX7 195 Lib.Math.max.name) (List.mem_cons_of_mem _ (List.mem_append_left _ (List.mem_cons_of_mem _ (List.mem_cons_of_mem _ (List.mem_cons_of_mem _ (List.mem_cons_of_mem _ (List.mem_cons_of_mem _ (List.Mem.head _))))))))) (hts (.static Lib.Math.max.name) (List.mem_cons_of_mem _ (List.mem_append_left _ (List.mem_cons_of_mem _ (List.mem_cons_of_mem _ (List.mem_cons_of_mem _ (List.mem_cons_of_mem _ (List.mem_cons_of_mem _ (List.mem_cons_of_mem _ (List.Mem.head _)))))))))) (hts (.initialized "java/lang/Math") (List.mem_cons_of_mem _ (List.mem_append_left _ (List.mem_cons_of_mem _ (List.mem_cons_of_mem _ (List.mem_cons_of_mem _ (List.mem_cons_of_mem _ (List.mem_cons_of_mem _ (List.mem_cons_of_mem _ (List.mem_cons_of_mem _ (List.Mem.head _))))))))))) (hts (.code Lib.Math.max.name Lib.Math.max.code 2 (some .int)) (List.mem_cons_of_mem _ (List.mem_append_left _ (List.mem_cons_of_mem _ (List.mem_cons_of_mem _ (List.mem_cons_of_mem _ (List.mem_cons_of_mem _ (List.mem_cons_of_mem _ (List.mem_cons_of_mem _ (List.mem_cons_of_mem _ (List.mem_cons_of_mem _ (List.Mem.head _)))))))))))) (Nat.le_of_ble_eq_true rfl) (Nat.le_of_ble_eq_true rfl) (Nat.le_of_ble_eq_true rfl) (Nat.le_of_ble_eq_true rfl) dX7_tallyUp_81 ?_
        have hi_6 : vp_in a_33 2 := by exact kt_in (by omega) (by omega)
        refine va_iast hx hb hK hP hD hS 2 0 rfl rfl hi_6 dX7_tallyUp_84 (fun H locs hP hD hS => ?_)
        have hP : va_P D vwCl [(so, .inr (7, [.ref ru, .ref tr, .ref lk, .ref vp, .ref vd, .ref vt, .ref vg, .ref vw, .ref ve, .ref vo, .ref vq, .int qd, .int pp, .int ct, .int sv])), (vt, .inl (cI, 6, .inl (upd g1 t_53.toNatClampNeg t_57))), (vg, .inl (cI, 2, .inl (upd g2 a_33.toNatClampNeg (if a_74 < a_80 then a_80 else a_74)))), (vw, .inl (cI, LW, .inl wo)), (ve, .inl (cI, LW, .inl de))] H := hP
        have hD : va_D A [(so, .inr (7, [.ref ru, .ref tr, .ref lk, .ref vp, .ref vd, .ref vt, .ref vg, .ref vw, .ref ve, .ref vo, .ref vq, .int qd, .int pp, .int ct, .int sv])), (vt, .inl (cI, 6, .inl (upd g1 t_53.toNatClampNeg t_57))), (vg, .inl (cI, 2, .inl (upd g2 a_33.toNatClampNeg (if a_74 < a_80 then a_80 else a_74)))), (vw, .inl (cI, LW, .inl wo)), (ve, .inl (cI, LW, .inl de))] := hD
        exact j_85 ((upd g1 t_53.toNatClampNeg t_57), (upd g2 a_33.toNatClampNeg (if a_74 < a_80 then a_80 else a_74))) (by show kt_TY wo de (s_.toInt.toNat + 1) (upd g1 t_53.toNatClampNeg t_57) (upd g2 a_33.toNatClampNeg (if a_74 < a_80 then a_80 else a_74)); first
                | exact hty.none (by omega)
                | (rw [hix]; exact hty.draw (by omega) (by omega) (by rw [← hix]; exact hx57))
                | (rw [hix, htx]; exact hty.win (by omega) (by omega) (by omega) (by rw [← hix]; exact hx57) (by rw [kt_mm, ← htx, ← i74, ← i80]))) H _ hP hD hS ls (lv_sub hl [0, 1, 2] rfl)
    · have d_37 := c_37
      simp only [kt_lt, kt_le, kt_eq, kt_c0, kt_c1, kt_c2, kt_c3, kt_c4, kt_c8, kt_c9, kt_cm1, kt_c81, kt_c40, kt_c7, kt_c5, kt_c6, kt_c512, kt_c10, kt_c10000] at d_37
      refine lv_goto (tgt := 85) hx hb dX7_tallyUp_40 (by decide) ?_
      exact j_85 (g1, g2) (by show kt_TY wo de (s_.toInt.toNat + 1) g1 g2; first
              | exact hty.none (by omega)
              | (rw [hix]; exact hty.draw (by omega) (by omega) (by rw [← hix]; exact hx57))
              | (rw [hix, htx]; exact hty.win (by omega) (by omega) (by omega) (by rw [← hix]; exact hx57) (by rw [kt_mm, ← htx, ← i74, ← i80]))) H _ hP hD hS ls (lv_sub hl [0, 1, 2] rfl)
