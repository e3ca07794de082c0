/-! ===== the class's ground, exactly ===== -/
theorem kt_rc {i j w : Int} (hw : 1 ≤ w) (hj : 0 ≤ j ∧ j < w) : (i * w + j) / w = i ∧ (i * w + j) % w = j := by
  constructor
  · rw [Int.add_comm, Int.add_mul_ediv_right _ _ (by omega), Int.ediv_eq_zero_of_lt hj.1 hj.2, Int.zero_add]
  · rw [Int.add_comm, Int.add_mul_emod_self_right, Int.emod_eq_of_lt hj.1 hj.2]
/-- the four fields beside the field in row i and place j -/
theorem kt_al_f {i j w L : Int} (hw : 2 ≤ w ∧ w ≤ 9) (hj : 0 ≤ j ∧ j < w) : ((0 < i → kt_al (i * w + j) w L 0 1 = i * w + j - w) ∧ (¬ 0 < i → kt_al (i * w + j) w L 0 1 = -1)) ∧ ((j < w - 1 → kt_al (i * w + j) w L 1 1 = i * w + j + 1) ∧ (¬ j < w - 1 → kt_al (i * w + j) w L 1 1 = -1)) ∧ ((i < L - 1 → kt_al (i * w + j) w L 2 1 = i * w + j + w) ∧ (¬ i < L - 1 → kt_al (i * w + j) w L 2 1 = -1)) ∧ ((0 < j → kt_al (i * w + j) w L 3 1 = i * w + j - 1) ∧ (¬ 0 < j → kt_al (i * w + j) w L 3 1 = -1)) := by
  obtain ⟨e1, e2⟩ := kt_rc (i := i) (j := j) (w := w) (by omega) hj
  have r0 := (kt_rom_c (i * w + j) w L 0).1 rfl
  have r1 := (kt_rom_c (i * w + j) w L 1).2.1 rfl
  have r2 := (kt_rom_c (i * w + j) w L 2).2.2.1 rfl
  have r3 := (kt_rom_c (i * w + j) w L 3).2.2.2 (by decide) (by decide) (by decide)
  have s0 := (kt_stp_c w 0 1).1 rfl
  have s1 := (kt_stp_c w 1 1).2.1 rfl
  have s2 := (kt_stp_c w 2 1).2.2.1 rfl
  have s3 := (kt_stp_c w 3 1).2.2.2 (by decide) (by decide) (by decide)
  have a0 := kt_al_c (i * w + j) w L 0 1
  have a1 := kt_al_c (i * w + j) w L 1 1
  have a2 := kt_al_c (i * w + j) w L 2 1
  have a3 := kt_al_c (i * w + j) w L 3 1
  omega
def kt_edge (f w L : Int) : Prop := f / w = 0 ∨ f % w = 0 ∨ f / w = L - 1 ∨ f % w = w - 1
/-- whether a field of a sign is a goal -/
def kt_gol (goal : Int32) (w L : Int) (s : Int32) (f : Int) : Prop := (goal = 0 ∧ kt_tp s = 2) ∨ (¬ goal = 0 ∧ kt_edge f w L)
/-- what is laid of one field -/
def kt_gf (fg : Nat → Int32) (goal : Int32) (w L : Int) (tg gl nb : Nat → Int32) (f : Nat) : Prop := tg f = kt_tp (fg f) ∧ kt_B (gl f) (kt_gol goal w L (fg f) (f : Int)) ∧ ∀ a : Nat, a < 4 → (nb (4 * f + a)).toInt = kt_al (f : Int) w L a 1
/-- k fields further on a way there are k fields less to go -/
theorem kt_rom_add {f w L a k : Int} (hw : 2 ≤ w ∧ w ≤ 9) (ha : 0 ≤ a ∧ a < 4) (hk0 : 0 ≤ k) (hk : k ≤ kt_rom f w L a) : kt_rom (f + k * kt_stp w a) w L a = kt_rom f w L a - k := by
  have hm : 0 ≤ f % w ∧ f % w < w := ⟨Int.emod_nonneg f (by omega), Int.emod_lt_of_pos f (by omega)⟩
  have hf : f / w * w + f % w = f := by rw [Int.mul_comm]; exact Int.mul_ediv_add_emod f w
  generalize hi : f / w = i at *
  generalize hj : f % w = j at *
  obtain ⟨r0, r1, r2, r3⟩ := kt_rom_c f w L a
  rw [hi] at r0 r2
  rw [hj] at r1 r3
  obtain ⟨s0, s1, s2, s3⟩ := kt_stp_c w a k
  obtain ⟨q0, q1, q2, q3⟩ := kt_rom_c (f + k * kt_stp w a) w L a
  by_cases c0 : a = 0
  · have e : f + k * kt_stp w a = (i - k) * w + j := by rw [s0 c0, Int.sub_mul]; omega
    have h := kt_rc (i := i - k) (j := j) (w := w) (by omega) hm
    rw [q0 c0, e, h.1, r0 c0]
  · by_cases c1 : a = 1
    · have hr := r1 c1
      have e : f + k * kt_stp w a = i * w + (j + k) := by rw [s1 c1]; omega
      have h := kt_rc (i := i) (j := j + k) (w := w) (by omega) (by omega)
      rw [q1 c1, e, h.2, hr]; omega
    · by_cases c2 : a = 2
      · have e : f + k * kt_stp w a = (i + k) * w + j := by rw [s2 c2, Int.add_mul]; omega
        have h := kt_rc (i := i + k) (j := j) (w := w) (by omega) hm
        rw [q2 c2, e, h.1, r2 c2]; omega
      · have hr := r3 c0 c1 c2
        have e : f + k * kt_stp w a = i * w + (j - k) := by rw [s3 c0 c1 c2]; omega
        have h := kt_rc (i := i) (j := j - k) (w := w) (by omega) (by omega)
        rw [q3 c0 c1 c2, e, h.2, hr]
/-- a field further -/
theorem kt_al_add {f w L a k : Int} (hw : 2 ≤ w ∧ w ≤ 9) (ha : 0 ≤ a ∧ a < 4) (hk0 : 0 ≤ k) (hk : k ≤ kt_rom f w L a) : kt_al (f + k * kt_stp w a) w L a 1 = kt_al f w L a (k + 1) := by
  have h := kt_rom_add hw ha hk0 hk
  have h1 := kt_al_c (f + k * kt_stp w a) w L a 1
  have h2 := kt_al_c f w L a (k + 1)
  have e : (k + 1) * kt_stp w a = k * kt_stp w a + 1 * kt_stp w a := Int.add_mul _ _ _
  omega

set_option maxHeartbeats 4000000 in
set_option maxRecDepth 100000 in
theorem c_X0_layE (l : Launch) (D : va_G) (cI cZ cB : ClassId) (sz : Nat) (gr : Nat) (gt : Nat) (gg : Nat) (gn : Nat) (gs : Int32) (gm : Int32) (tg : Nat → Int32) (gl : Nat → Int32) (nb : Nat → Int32) (to : Nat) (sg : Nat) (ln : Int32) (wd : Int32) (fg : Nat → Int32) (p2 : Int32) (hln : 2 ≤ ln.toInt ∧ ln.toInt ≤ 9) (hwd : 2 ≤ wd.toInt ∧ wd.toInt ≤ 9) (hfg : kt_r fg 81 0 7) (hgt : kt_r tg 81 0 2) (hgg : kt_r gl 81 0 1) (hnb : kt_r nb 324 (-1) 80) : kt_Mv l yX0_lay wsX0_lay { frames := 1, cells := 0, slots := 0, locals := 20 } D (kt_ty cI cZ cB) [.ref gr, .ref to, .int p2] sz [(gr, .inr (0, [.ref gt, .ref gg, .ref gn, .int gs, .int gm])), (gt, .inl (cI, 81, .inl tg)), (gg, .inl (cZ, 81, .inl gl)), (gn, .inl (cI, 324, .inl nb)), (to, .inr (9, [.ref sg, .int ln, .int wd])), (sg, .inl (cI, 81, .inl fg))] (fun (u : (Nat → Int32) × (Nat → Int32) × (Nat → Int32) × Int32 × Int32) => (kt_r u.1 81 0 2 ∧ kt_r u.2.1 81 0 1 ∧ kt_r u.2.2.1 324 (-1) 80) ∧ (4 ≤ u.2.2.2.1.toInt ∧ u.2.2.2.1.toInt ≤ 81 ∧ u.2.2.2.1.toInt = ln.toInt * wd.toInt) ∧ (2 ≤ u.2.2.2.2.toInt ∧ u.2.2.2.2.toInt ≤ 16 ∧ u.2.2.2.2.toInt = ln.toInt + wd.toInt - 2) ∧ ∀ f : Nat, (f : Int) < ln.toInt * wd.toInt → kt_gf fg p2 wd.toInt ln.toInt u.1 u.2.1 u.2.2.1 f) (fun (u : (Nat → Int32) × (Nat → Int32) × (Nat → Int32) × Int32 × Int32) => [(gr, .inr (0, [.ref gt, .ref gg, .ref gn, .int u.2.2.2.1, .int u.2.2.2.2])), (gt, .inl (cI, 81, .inl u.1)), (gg, .inl (cZ, 81, .inl u.2.1)), (gn, .inl (cI, 324, .inl u.2.2.1)), (to, .inr (9, [.ref sg, .int ln, .int wd])), (sg, .inl (cI, 81, .inl fg))]) 0 0 := by
  refine kt_Mv.of (cc := cX0_lay) (maxL := 7) (ret := none) (by decide) rfl (Nat.le_of_ble_eq_true rfl) ?_
  intro p e s m below meth c A ls H hAt hP hD hS hl
  obtain ⟨hx, hb, hr, hml, hown, hts, hN, hK, hlk, hnm, hA⟩ := hAt
  have hl : lv_has ls 7 [(0, .ref gr), (1, .ref to), (2, .int p2)] := hl
  have hown : s.vm.findClass RX0 = some m.cls := hown
  refine lv_aload_n hx hb dX0_lay_0 rfl (lv_at hl 0 rfl) ?_
  refine lv_aload_n hx hb dX0_lay_1 rfl (lv_at hl 1 rfl) ?_
  refine kt_pi (wc := [(to, .inr (9, [.ref sg, .int ln, .int wd]))]) [4] hP hD hS hA rfl (by decide) (fun hPc hDc => va_runV (As := []) (rest := [.ref gr]) ⟨hx, hb, hml, hown, hts⟩ (c_X9_size l D cI cZ cB H.size to sg ln wd (by first | assumption | omega | rfl | decide) (by first | assumption | omega | rfl | decide)) (cwV 0 hts gX0_lay_X9_size rfl rfl rfl (by decide +kernel) ⟨Nat.le_of_ble_eq_true rfl, Nat.le_of_ble_eq_true rfl⟩) (kt_preV hN hK hPc hDc 0 (ci := 9) (q := (RX9, TX9, 3)) rfl rfl) rfl rfl hl.1 rfl (lv_room (Nat.le_of_ble_eq_true rfl)) dX0_lay_2 ⟨Nat.le_of_ble_eq_true rfl, Nat.le_of_ble_eq_true rfl⟩) (fun r_2 _ H locs hw_2 hP hS => ?_)
  refine va_put (D := D) (ci := 0) (v := .int r_2) (ty := .int) (C := RX0) (T := TX0) (N := 5) hx hb hts iw_X0_lay_X0 tyX0 tyX0_ok nmX0 hown hK hP hD hS 0 rfl rfl 3 (by decide) (hts (.fieldLink RX0 28 "KingTable$Ground" "size" "I") (List.mem_cons_of_mem _ (List.mem_append_left _ (List.mem_append_left _ (List.Mem.head _))))) (fun _ h9 => h9) rfl (by decide +kernel) rfl rfl (Nat.le_of_ble_eq_true rfl) dX0_lay_5 (fun H locs hP hD hS => ?_)
  have hP : va_P D vwCl [(gr, .inr (0, [.ref gt, .ref gg, .ref gn, .int r_2, .int gm])), (gt, .inl (cI, 81, .inl tg)), (gg, .inl (cZ, 81, .inl gl)), (gn, .inl (cI, 324, .inl nb)), (to, .inr (9, [.ref sg, .int ln, .int wd])), (sg, .inl (cI, 81, .inl fg))] H := hP
  have hD : va_D A [(gr, .inr (0, [.ref gt, .ref gg, .ref gn, .int r_2, .int gm])), (gt, .inl (cI, 81, .inl tg)), (gg, .inl (cZ, 81, .inl gl)), (gn, .inl (cI, 324, .inl nb)), (to, .inr (9, [.ref sg, .int ln, .int wd])), (sg, .inl (cI, 81, .inl fg))] := hD
  refine lv_aload_n hx hb dX0_lay_8 rfl (lv_at hl 0 rfl) ?_
  refine lv_aload_n hx hb dX0_lay_9 rfl (lv_at hl 1 rfl) ?_
  refine va_getN (D := D) (ci := 9) (C := RX9) (T := TX9) (N := 3) hx hb hts iw_X0_lay_X9 hown hK hP 4 rfl rfl 1 (by decide) (va_Nw.use (w := .fieldLinkNest RX0 31 "KingTable$Told" "lines" "I" "KingTable") rfl (hN _ (by decide +kernel))) (fun _ h9 => h9) rfl dX0_lay_10 ?_
  refine lv_aload_n hx hb dX0_lay_13 rfl (lv_at hl 1 rfl) ?_
  refine va_getN (D := D) (ci := 9) (C := RX9) (T := TX9) (N := 3) hx hb hts iw_X0_lay_X9 hown hK hP 4 rfl rfl 2 (by decide) (va_Nw.use (w := .fieldLinkNest RX0 34 "KingTable$Told" "width" "I" "KingTable") rfl (hN _ (by decide +kernel))) (fun _ h9 => h9) rfl dX0_lay_14 ?_
  refine lv_iadd hx hb dX0_lay_17 ?_
  refine lv_topi (fun t_17 et_17 => ?_)
  first | have hk_17 := kt_addx et_17 (by first | omega | (simp only [kt_c0, kt_c1, kt_c2, kt_c3, kt_c4, kt_c8, kt_c9, kt_cm1, kt_c81, kt_c40, kt_c7, kt_c5, kt_c6, kt_c512, kt_c10, kt_c10000]; omega)) (by first | omega | (simp only [kt_c0, kt_c1, kt_c2, kt_c3, kt_c4, kt_c8, kt_c9, kt_cm1, kt_c81, kt_c40, kt_c7, kt_c5, kt_c6, kt_c512, kt_c10, kt_c10000]; omega)) | obtain ⟨k_17, hk_17, hm_17, hM_17⟩ := kt_addk et_17
  refine lv_iconst (v := 2) hx hb dX0_lay_18 (by decide) ?_
  refine lv_isub hx hb dX0_lay_19 ?_
  refine lv_topi (fun t_19 et_19 => ?_)
  first | have hk_19 := kt_subx et_19 (by first | omega | (simp only [kt_c0, kt_c1, kt_c2, kt_c3, kt_c4, kt_c8, kt_c9, kt_cm1, kt_c81, kt_c40, kt_c7, kt_c5, kt_c6, kt_c512, kt_c10, kt_c10000]; omega)) (by first | omega | (simp only [kt_c0, kt_c1, kt_c2, kt_c3, kt_c4, kt_c8, kt_c9, kt_cm1, kt_c81, kt_c40, kt_c7, kt_c5, kt_c6, kt_c512, kt_c10, kt_c10000]; omega)) | obtain ⟨k_19, hk_19, hm_19, hM_19⟩ := kt_subk et_19
  try simp only [kt_c0, kt_c1, kt_c2, kt_c3, kt_c4, kt_c8, kt_c9, kt_cm1, kt_c81, kt_c40, kt_c7, kt_c5, kt_c6, kt_c512, kt_c10, kt_c10000] at hk_19
  refine va_put (D := D) (ci := 0) (v := .int t_19) (ty := .int) (C := RX0) (T := TX0) (N := 5) hx hb hts iw_X0_lay_X0 tyX0 tyX0_ok nmX0 hown hK hP hD hS 0 rfl rfl 4 (by decide) (hts (.fieldLink RX0 37 "KingTable$Ground" "mostMoves" "I") (List.mem_cons_of_mem _ (List.mem_append_left _ (List.mem_append_left _ (List.mem_cons_of_mem _ (List.Mem.head _)))))) (fun _ h9 => h9) rfl (by decide +kernel) rfl rfl (Nat.le_of_ble_eq_true rfl) dX0_lay_20 (fun H locs hP hD hS => ?_)
  have hP : va_P D vwCl [(gr, .inr (0, [.ref gt, .ref gg, .ref gn, .int r_2, .int t_19])), (gt, .inl (cI, 81, .inl tg)), (gg, .inl (cZ, 81, .inl gl)), (gn, .inl (cI, 324, .inl nb)), (to, .inr (9, [.ref sg, .int ln, .int wd])), (sg, .inl (cI, 81, .inl fg))] H := hP
  have hD : va_D A [(gr, .inr (0, [.ref gt, .ref gg, .ref gn, .int r_2, .int t_19])), (gt, .inl (cI, 81, .inl tg)), (gg, .inl (cZ, 81, .inl gl)), (gn, .inl (cI, 324, .inl nb)), (to, .inr (9, [.ref sg, .int ln, .int wd])), (sg, .inl (cI, 81, .inl fg))] := hD
  refine lv_iconst (v := 0) hx hb dX0_lay_23 (by decide) ?_
  refine lv_istore_n (lv' := [(3, .int 0), (0, .ref gr), (1, .ref to), (2, .int p2)]) hx hb dX0_lay_24 rfl hl (by decide) rfl (fun ls hl => ?_)
  refine kt_loop (σ := Nat × (Nat → Int32) × (Nat → Int32) × (Nat → Int32)) 25 7 (fun u => [(gr, .inr (0, [.ref gt, .ref gg, .ref gn, .int r_2, .int t_19])), (gt, .inl (cI, 81, .inl u.2.1)), (gg, .inl (cZ, 81, .inl u.2.2.1)), (gn, .inl (cI, 324, .inl u.2.2.2)), (to, .inr (9, [.ref sg, .int ln, .int wd])), (sg, .inl (cI, 81, .inl fg))]) (fun u => [(3, .int (nI u.1)), (0, .ref gr), (1, .ref to), (2, .int p2)]) (fun n u => ((u.1 ≤ 9 ∧ 9 < u.1 + n ∧ (u.1 : Int) ≤ ln.toInt) ∧ kt_r u.2.1 81 0 2 ∧ kt_r u.2.2.1 81 0 1 ∧ kt_r u.2.2.2 324 (-1) 80) ∧ ∀ f : Nat, (f : Int) < (nI u.1).toInt * wd.toInt → kt_gf fg p2 wd.toInt ln.toInt u.2.1 u.2.2.1 u.2.2.2 f) (fun u h => by omega) (fun n_25 ih_25 u hI H locs hP hD hS ls hl => ?_) (10) (0, tg, gl, nb) (by show ((0 ≤ 9 ∧ 9 < 0 + 10 ∧ (0 : Int) ≤ ln.toInt) ∧ kt_r tg 81 0 2 ∧ kt_r gl 81 0 1 ∧ kt_r nb 324 (-1) 80) ∧ ∀ f : Nat, (f : Int) < (nI 0).toInt * wd.toInt → kt_gf fg p2 wd.toInt ln.toInt tg gl nb f; exact ⟨⟨⟨by decide, by decide, by omega⟩, hgt, hgg, hnb⟩, fun f hf => by rw [show (nI 0).toInt = 0 from by decide, Int.zero_mul] at hf; omega⟩) hP hD hS (lv_sub hl [0, 1, 2, 3] rfl)
  obtain ⟨i, g1, g2, g3⟩ := u
  have hP : va_P D vwCl [(gr, .inr (0, [.ref gt, .ref gg, .ref gn, .int r_2, .int t_19])), (gt, .inl (cI, 81, .inl g1)), (gg, .inl (cZ, 81, .inl g2)), (gn, .inl (cI, 324, .inl g3)), (to, .inr (9, [.ref sg, .int ln, .int wd])), (sg, .inl (cI, 81, .inl fg))] H := hP
  have hD : va_D A [(gr, .inr (0, [.ref gt, .ref gg, .ref gn, .int r_2, .int t_19])), (gt, .inl (cI, 81, .inl g1)), (gg, .inl (cZ, 81, .inl g2)), (gn, .inl (cI, 324, .inl g3)), (to, .inr (9, [.ref sg, .int ln, .int wd])), (sg, .inl (cI, 81, .inl fg))] := hD
  have hl : lv_has ls 7 [(3, .int (nI i)), (0, .ref gr), (1, .ref to), (2, .int p2)] := hl
  have hI : ((i ≤ 9 ∧ 9 < i + (n_25 + 1) ∧ (i : Int) ≤ ln.toInt) ∧ kt_r g1 81 0 2 ∧ kt_r g2 81 0 1 ∧ kt_r g3 324 (-1) 80) ∧ ∀ f : Nat, (f : Int) < (nI i).toInt * wd.toInt → kt_gf fg p2 wd.toInt ln.toInt g1 g2 g3 f := hI
  obtain ⟨⟨hib, hgt, hgg, hnb⟩, hgf⟩ := hI
  have hi0 := kt_nI (n := i) (by omega)
  refine lv_iload_n hx hb dX0_lay_25 rfl (lv_at hl 0 rfl) ?_
  refine lv_aload_n hx hb dX0_lay_26 rfl (lv_at hl 2 rfl) ?_
  refine va_getN (D := D) (ci := 9) (C := RX9) (T := TX9) (N := 3) hx hb hts iw_X0_lay_X9 hown hK hP 4 rfl rfl 1 (by decide) (va_Nw.use (w := .fieldLinkNest RX0 31 "KingTable$Told" "lines" "I" "KingTable") rfl (hN _ (by decide +kernel))) (fun _ h9 => h9) rfl dX0_lay_27 ?_
  refine lv_icmp_ge (tgt := 264) hx hb dX0_lay_30 (by decide) (fun c_30 => ?_) (fun c_30 => ?_)
  · have d_30 := c_30
    simp only [kt_lt, kt_le, kt_eq, kt_c0, kt_c1, kt_c2, kt_c3, kt_c4, kt_c8, kt_c9, kt_cm1, kt_c81, kt_c40, kt_c7, kt_c5, kt_c6, kt_c512, kt_c10, kt_c10000] at d_30
    have hiL : (nI i).toInt = ln.toInt := by omega
    rw [hiL] at hgf
    exact kt_rv (g1, g2, g3, r_2, t_19) hx hb hr hlk hS dX0_lay_264 hP hD (by show (kt_r g1 81 0 2 ∧ kt_r g2 81 0 1 ∧ kt_r g3 324 (-1) 80) ∧ (4 ≤ r_2.toInt ∧ r_2.toInt ≤ 81 ∧ r_2.toInt = ln.toInt * wd.toInt) ∧ (2 ≤ t_19.toInt ∧ t_19.toInt ≤ 16 ∧ t_19.toInt = ln.toInt + wd.toInt - 2) ∧ ∀ f : Nat, (f : Int) < ln.toInt * wd.toInt → kt_gf fg p2 wd.toInt ln.toInt g1 g2 g3 f; exact ⟨⟨hgt, hgg, hnb⟩, by omega, by omega, hgf⟩)
  · have d_30 := c_30
    simp only [kt_lt, kt_le, kt_eq, kt_c0, kt_c1, kt_c2, kt_c3, kt_c4, kt_c8, kt_c9, kt_cm1, kt_c81, kt_c40, kt_c7, kt_c5, kt_c6, kt_c512, kt_c10, kt_c10000] at d_30
    refine lv_iconst (v := 0) hx hb dX0_lay_33 (by decide) ?_
    refine lv_istore (lv' := [(4, .int 0), (3, .int (nI i)), (0, .ref gr), (1, .ref to), (2, .int p2)]) hx hb dX0_lay_34 hl (by decide) rfl (fun ls hl => ?_)
    refine kt_loop (σ := Nat × (Nat → Int32) × (Nat → Int32) × (Nat → Int32)) 36 7 (fun u => [(gr, .inr (0, [.ref gt, .ref gg, .ref gn, .int r_2, .int t_19])), (gt, .inl (cI, 81, .inl u.2.1)), (gg, .inl (cZ, 81, .inl u.2.2.1)), (gn, .inl (cI, 324, .inl u.2.2.2)), (to, .inr (9, [.ref sg, .int ln, .int wd])), (sg, .inl (cI, 81, .inl fg))]) (fun u => [(4, .int (nI u.1)), (3, .int (nI i)), (0, .ref gr), (1, .ref to), (2, .int p2)]) (fun n u => ((u.1 ≤ 9 ∧ 9 < u.1 + n ∧ (u.1 : Int) ≤ wd.toInt) ∧ kt_r u.2.1 81 0 2 ∧ kt_r u.2.2.1 81 0 1 ∧ kt_r u.2.2.2 324 (-1) 80) ∧ ∀ f : Nat, (f : Int) < (nI i).toInt * wd.toInt + (u.1 : Int) → kt_gf fg p2 wd.toInt ln.toInt u.2.1 u.2.2.1 u.2.2.2 f) (fun u h => by omega) (fun n_36 ih_36 u hI H locs hP hD hS ls hl => ?_) (10) (0, g1, g2, g3) (by show ((0 ≤ 9 ∧ 9 < 0 + 10 ∧ (0 : Int) ≤ wd.toInt) ∧ kt_r g1 81 0 2 ∧ kt_r g2 81 0 1 ∧ kt_r g3 324 (-1) 80) ∧ ∀ f : Nat, (f : Int) < (nI i).toInt * wd.toInt + (0 : Int) → kt_gf fg p2 wd.toInt ln.toInt g1 g2 g3 f; exact ⟨⟨⟨by decide, by decide, by omega⟩, hgt, hgg, hnb⟩, fun f hf => hgf f (by omega)⟩) hP hD hS (lv_sub hl [0, 1, 2, 3, 4] rfl)
    obtain ⟨j, h1, h2, h3⟩ := u
    have hP : va_P D vwCl [(gr, .inr (0, [.ref gt, .ref gg, .ref gn, .int r_2, .int t_19])), (gt, .inl (cI, 81, .inl h1)), (gg, .inl (cZ, 81, .inl h2)), (gn, .inl (cI, 324, .inl h3)), (to, .inr (9, [.ref sg, .int ln, .int wd])), (sg, .inl (cI, 81, .inl fg))] H := hP
    have hD : va_D A [(gr, .inr (0, [.ref gt, .ref gg, .ref gn, .int r_2, .int t_19])), (gt, .inl (cI, 81, .inl h1)), (gg, .inl (cZ, 81, .inl h2)), (gn, .inl (cI, 324, .inl h3)), (to, .inr (9, [.ref sg, .int ln, .int wd])), (sg, .inl (cI, 81, .inl fg))] := hD
    have hl : lv_has ls 7 [(4, .int (nI j)), (3, .int (nI i)), (0, .ref gr), (1, .ref to), (2, .int p2)] := hl
    have hI : ((j ≤ 9 ∧ 9 < j + (n_36 + 1) ∧ (j : Int) ≤ wd.toInt) ∧ kt_r h1 81 0 2 ∧ kt_r h2 81 0 1 ∧ kt_r h3 324 (-1) 80) ∧ ∀ f : Nat, (f : Int) < (nI i).toInt * wd.toInt + (j : Int) → kt_gf fg p2 wd.toInt ln.toInt h1 h2 h3 f := hI
    obtain ⟨⟨hjb, hgt, hgg, hnb⟩, hgf⟩ := hI
    have hj0 := kt_nI (n := j) (by omega)
    refine lv_iload hx hb dX0_lay_36 (lv_at hl 0 rfl) ?_
    refine lv_aload_n hx hb dX0_lay_38 rfl (lv_at hl 3 rfl) ?_
    refine va_getN (D := D) (ci := 9) (C := RX9) (T := TX9) (N := 3) hx hb hts iw_X0_lay_X9 hown hK hP 4 rfl rfl 2 (by decide) (va_Nw.use (w := .fieldLinkNest RX0 34 "KingTable$Told" "width" "I" "KingTable") rfl (hN _ (by decide +kernel))) (fun _ h9 => h9) rfl dX0_lay_39 ?_
    refine lv_icmp_ge (tgt := 258) hx hb dX0_lay_42 (by decide) (fun c_42 => ?_) (fun c_42 => ?_)
    · have d_42 := c_42
      simp only [kt_lt, kt_le, kt_eq, kt_c0, kt_c1, kt_c2, kt_c3, kt_c4, kt_c8, kt_c9, kt_cm1, kt_c81, kt_c40, kt_c7, kt_c5, kt_c6, kt_c512, kt_c10, kt_c10000] at d_42
      refine lv_iinc (v := nI (i + 1)) (lv' := [(3, .int (nI (i + 1))), (4, .int (nI j)), (0, .ref gr), (1, .ref to), (2, .int p2)]) hx hb dX0_lay_258 hl (k := 1) rfl (nI_1 _) (by decide) rfl (fun ls hl => ?_)
      refine lv_goto (tgt := 25) hx hb dX0_lay_261 (by decide) ?_
      exact ih_25 ((i + 1), h1, h2, h3) (by show (((i + 1) ≤ 9 ∧ 9 < (i + 1) + n_25 ∧ ((i + 1) : Int) ≤ ln.toInt) ∧ kt_r h1 81 0 2 ∧ kt_r h2 81 0 1 ∧ kt_r h3 324 (-1) 80) ∧ ∀ f : Nat, (f : Int) < (nI (i + 1)).toInt * wd.toInt → kt_gf fg p2 wd.toInt ln.toInt h1 h2 h3 f; refine ⟨⟨by omega, hgt, hgg, hnb⟩, fun f hf => hgf f ?_⟩; rw [show (nI (i + 1)).toInt = (nI i).toInt + 1 from by rw [kt_nI (by omega), kt_nI (by omega)]; omega, Int.add_mul, Int.one_mul] at hf; omega) H _ hP hD hS ls (lv_sub hl [0, 2, 3, 4] rfl)
    · have d_42 := c_42
      simp only [kt_lt, kt_le, kt_eq, kt_c0, kt_c1, kt_c2, kt_c3, kt_c4, kt_c8, kt_c9, kt_cm1, kt_c81, kt_c40, kt_c7, kt_c5, kt_c6, kt_c512, kt_c10, kt_c10000] at d_42
      have hF := kt_fld (r := (nI i).toInt) (c := (nI j).toInt) (L := ln.toInt) (w := wd.toInt) (by omega) (by omega) hwd (by omega)
      have hal := kt_al_f (i := (nI i).toInt) (j := (nI j).toInt) (w := wd.toInt) (L := ln.toInt) hwd (by omega)
      have hrc := kt_rc (i := (nI i).toInt) (j := (nI j).toInt) (w := wd.toInt) (by omega) (by omega)
      refine lv_iload_n hx hb dX0_lay_45 rfl (lv_at hl 1 rfl) ?_
      refine lv_aload_n hx hb dX0_lay_46 rfl (lv_at hl 3 rfl) ?_
      refine va_getN (D := D) (ci := 9) (C := RX9) (T := TX9) (N := 3) hx hb hts iw_X0_lay_X9 hown hK hP 4 rfl rfl 2 (by decide) (va_Nw.use (w := .fieldLinkNest RX0 34 "KingTable$Told" "width" "I" "KingTable") rfl (hN _ (by decide +kernel))) (fun _ h9 => h9) rfl dX0_lay_47 ?_
      refine lv_imul hx hb dX0_lay_50 ?_
      refine lv_topi (fun t_50 et_50 => ?_)
      obtain ⟨k_50, hk_50, hm_50, hM_50⟩ := kt_mulxk et_50
      refine lv_iload hx hb dX0_lay_51 (lv_at hl 0 rfl) ?_
      refine lv_iadd hx hb dX0_lay_53 ?_
      refine lv_topi (fun t_53 et_53 => ?_)
      first | have hk_53 := kt_addx et_53 (by first | omega | (simp only [kt_c0, kt_c1, kt_c2, kt_c3, kt_c4, kt_c8, kt_c9, kt_cm1, kt_c81, kt_c40, kt_c7, kt_c5, kt_c6, kt_c512, kt_c10, kt_c10000]; omega)) (by first | omega | (simp only [kt_c0, kt_c1, kt_c2, kt_c3, kt_c4, kt_c8, kt_c9, kt_cm1, kt_c81, kt_c40, kt_c7, kt_c5, kt_c6, kt_c512, kt_c10, kt_c10000]; omega)) | obtain ⟨k_53, hk_53, hm_53, hM_53⟩ := kt_addk et_53
      refine lv_istore (lv' := [(5, .int t_53), (4, .int (nI j)), (3, .int (nI i)), (0, .ref gr), (1, .ref to), (2, .int p2)]) hx hb dX0_lay_54 hl (by decide) rfl (fun ls hl => ?_)
      refine lv_iload_n hx hb dX0_lay_56 rfl (lv_at hl 2 rfl) ?_
      refine kt_join (σ := Int32) 91 7 (fun u => [(gr, .inr (0, [.ref gt, .ref gg, .ref gn, .int r_2, .int t_19])), (gt, .inl (cI, 81, .inl h1)), (gg, .inl (cZ, 81, .inl h2)), (gn, .inl (cI, 324, .inl h3)), (to, .inr (9, [.ref sg, .int ln, .int wd])), (sg, .inl (cI, 81, .inl fg))]) (fun u => [(5, .int t_53), (4, .int (nI j)), (3, .int (nI i)), (0, .ref gr), (1, .ref to), (2, .int p2)]) (fun u => [.int u]) (fun u => kt_B u (kt_edge ((nI i).toInt * wd.toInt + (nI j).toInt) wd.toInt ln.toInt)) (D := D) (A := A) (H0 := s.heap) (fun u hI H locs hP hD hS ls hl => ?_) (fun j_91 => ?_)
      · obtain ⟨ed, rfl⟩ : ∃ z, z = u := ⟨_, rfl⟩
        have hP : va_P D vwCl [(gr, .inr (0, [.ref gt, .ref gg, .ref gn, .int r_2, .int t_19])), (gt, .inl (cI, 81, .inl h1)), (gg, .inl (cZ, 81, .inl h2)), (gn, .inl (cI, 324, .inl h3)), (to, .inr (9, [.ref sg, .int ln, .int wd])), (sg, .inl (cI, 81, .inl fg))] H := hP
        have hD : va_D A [(gr, .inr (0, [.ref gt, .ref gg, .ref gn, .int r_2, .int t_19])), (gt, .inl (cI, 81, .inl h1)), (gg, .inl (cZ, 81, .inl h2)), (gn, .inl (cI, 324, .inl h3)), (to, .inr (9, [.ref sg, .int ln, .int wd])), (sg, .inl (cI, 81, .inl fg))] := hD
        have hl : lv_has ls 7 [(5, .int t_53), (4, .int (nI j)), (3, .int (nI i)), (0, .ref gr), (1, .ref to), (2, .int p2)] := hl
        have hI : kt_B ed (kt_edge ((nI i).toInt * wd.toInt + (nI j).toInt) wd.toInt ln.toInt) := hI
        have hed := hI
        refine lv_istore (lv' := [(6, .int ed), (5, .int t_53), (4, .int (nI j)), (3, .int (nI i)), (0, .ref gr), (1, .ref to), (2, .int p2)]) hx hb dX0_lay_91 hl (by decide) rfl (fun ls hl => ?_)
        refine lv_aload_n hx hb dX0_lay_93 rfl (lv_at hl 4 rfl) ?_
        refine va_get (D := D) (ci := 0) (C := RX0) (T := TX0) (N := 5) hx hb hts iw_X0_lay_X0 hown hK hP 0 rfl rfl 0 (by decide) (hts (.fieldLink RX0 9 "KingTable$Ground" "types" "[I") (List.mem_cons_of_mem _ (List.mem_append_left _ (List.mem_append_left _ (List.mem_cons_of_mem _ (List.mem_cons_of_mem _ (List.Mem.head _))))))) (fun _ h9 => h9) rfl dX0_lay_94 ?_
        refine lv_iload hx hb dX0_lay_97 (lv_at hl 1 rfl) ?_
        refine lv_aload_n hx hb dX0_lay_99 rfl (lv_at hl 5 rfl) ?_
        refine va_getN (D := D) (ci := 9) (C := RX9) (T := TX9) (N := 3) hx hb hts iw_X0_lay_X9 hown hK hP 4 rfl rfl 0 (by decide) (va_Nw.use (w := .fieldLinkNest RX0 40 "KingTable$Told" "signs" "[I" "KingTable") rfl (hN _ (by decide +kernel))) (fun _ h9 => h9) rfl dX0_lay_100 ?_
        refine lv_iload hx hb dX0_lay_103 (lv_at hl 1 rfl) ?_
        have hi_1 : vp_in t_53 81 := by exact kt_in (by omega) (by omega)
        refine va_iald hx hb hK hP 5 0 rfl rfl hi_1 dX0_lay_105 ?_
        refine lv_topi (fun a_105 ea_105 => ?_)
        have ra_105 := hfg.get hi_1
        rw [← ea_105] at ra_105
        refine kt_pi (wc := []) [] hP hD hS hA rfl (by decide) (fun hPc hDc => va_runSN (As := [.int a_105]) (rest := [.int t_53, .ref gt]) ⟨hx, hb, hml, hown, hts⟩ (c_X10_typeOfSign l D cI cZ cB H.size a_105 ) ⟨va_cnB 1 hts gX0_lay_X10_typeOfSign_n43 rfl rfl rfl (hN (.methodLinkNest "KingTable$Ground" 43 yX10_typeOfSign "KingTable") (by decide +kernel)) (hts (.initialized RX10) (List.mem_cons_of_mem _ (List.mem_append_left _ (List.mem_append_left _ (List.mem_cons_of_mem _ (List.mem_cons_of_mem _ (List.mem_cons_of_mem _ (List.mem_cons_of_mem _ (List.mem_cons_of_mem _ (List.mem_cons_of_mem _ (List.mem_cons_of_mem _ (List.mem_cons_of_mem _ (List.mem_cons_of_mem _ (List.mem_cons_of_mem _ (List.mem_cons_of_mem _ (List.mem_cons_of_mem _ (List.mem_cons_of_mem _ (List.Mem.head _)))))))))))))))))) (by decide +kernel) ⟨Nat.le_of_ble_eq_true rfl, Nat.le_of_ble_eq_true rfl⟩, (hts (.static yX10_typeOfSign) (List.mem_cons_of_mem _ (List.mem_append_left _ (List.mem_append_left _ (List.mem_cons_of_mem _ (List.mem_cons_of_mem _ (List.mem_cons_of_mem _ (List.mem_cons_of_mem _ (List.mem_cons_of_mem _ (List.mem_cons_of_mem _ (List.mem_cons_of_mem _ (List.mem_cons_of_mem _ (List.mem_cons_of_mem _ (List.mem_cons_of_mem _ (List.mem_cons_of_mem _ (List.mem_cons_of_mem _ (List.Mem.head _))))))))))))))))), trivial⟩ (kt_preS hN hK hPc hDc) rfl rfl hl.1 rfl (lv_room (Nat.le_of_ble_eq_true rfl)) dX0_lay_106 ⟨Nat.le_of_ble_eq_true rfl, Nat.le_of_ble_eq_true rfl⟩) (fun r_106 _ H locs hw_106 hP hS => ?_)
        subst hw_106
        have hty := kt_tp_r a_105
        have hi_2 : vp_in t_53 81 := by exact kt_in (by omega) (by omega)
        refine va_iast hx hb hK hP hD hS 1 0 rfl rfl hi_2 dX0_lay_109 (fun H locs hP hD hS => ?_)
        have hgt : kt_r (upd h1 t_53.toNatClampNeg (kt_tp a_105)) 81 0 2 := hgt.upd (by omega) (by omega)
        have hP : va_P D vwCl [(gr, .inr (0, [.ref gt, .ref gg, .ref gn, .int r_2, .int t_19])), (gt, .inl (cI, 81, .inl (upd h1 t_53.toNatClampNeg (kt_tp a_105)))), (gg, .inl (cZ, 81, .inl h2)), (gn, .inl (cI, 324, .inl h3)), (to, .inr (9, [.ref sg, .int ln, .int wd])), (sg, .inl (cI, 81, .inl fg))] H := hP
        have hD : va_D A [(gr, .inr (0, [.ref gt, .ref gg, .ref gn, .int r_2, .int t_19])), (gt, .inl (cI, 81, .inl (upd h1 t_53.toNatClampNeg (kt_tp a_105)))), (gg, .inl (cZ, 81, .inl h2)), (gn, .inl (cI, 324, .inl h3)), (to, .inr (9, [.ref sg, .int ln, .int wd])), (sg, .inl (cI, 81, .inl fg))] := hD
        refine lv_aload_n hx hb dX0_lay_110 rfl (lv_at hl 4 rfl) ?_
        refine va_get (D := D) (ci := 0) (C := RX0) (T := TX0) (N := 5) hx hb hts iw_X0_lay_X0 hown hK hP 0 rfl rfl 1 (by decide) (hts (.fieldLink RX0 15 "KingTable$Ground" "goals" "[Z") (List.mem_cons_of_mem _ (List.mem_append_left _ (List.mem_append_left _ (List.mem_cons_of_mem _ (List.mem_cons_of_mem _ (List.mem_cons_of_mem _ (List.Mem.head _)))))))) (fun _ h9 => h9) rfl dX0_lay_111 ?_
        refine lv_iload hx hb dX0_lay_114 (lv_at hl 1 rfl) ?_
        refine lv_iload_n hx hb dX0_lay_116 rfl (lv_at hl 6 rfl) ?_
        refine kt_join (σ := Int32) 141 7 (fun u => [(gr, .inr (0, [.ref gt, .ref gg, .ref gn, .int r_2, .int t_19])), (gt, .inl (cI, 81, .inl (upd h1 t_53.toNatClampNeg (kt_tp a_105)))), (gg, .inl (cZ, 81, .inl h2)), (gn, .inl (cI, 324, .inl h3)), (to, .inr (9, [.ref sg, .int ln, .int wd])), (sg, .inl (cI, 81, .inl fg))]) (fun u => [(6, .int ed), (5, .int t_53), (4, .int (nI j)), (3, .int (nI i)), (0, .ref gr), (1, .ref to), (2, .int p2)]) (fun u => [.int u, .int t_53, .ref gg]) (fun u => kt_B u (kt_gol p2 wd.toInt ln.toInt a_105 ((nI i).toInt * wd.toInt + (nI j).toInt))) (D := D) (A := A) (H0 := s.heap) (fun u hI H locs hP hD hS ls hl => ?_) (fun j_141 => ?_)
        · obtain ⟨gv, rfl⟩ : ∃ z, z = u := ⟨_, rfl⟩
          have hP : va_P D vwCl [(gr, .inr (0, [.ref gt, .ref gg, .ref gn, .int r_2, .int t_19])), (gt, .inl (cI, 81, .inl (upd h1 t_53.toNatClampNeg (kt_tp a_105)))), (gg, .inl (cZ, 81, .inl h2)), (gn, .inl (cI, 324, .inl h3)), (to, .inr (9, [.ref sg, .int ln, .int wd])), (sg, .inl (cI, 81, .inl fg))] H := hP
          have hD : va_D A [(gr, .inr (0, [.ref gt, .ref gg, .ref gn, .int r_2, .int t_19])), (gt, .inl (cI, 81, .inl (upd h1 t_53.toNatClampNeg (kt_tp a_105)))), (gg, .inl (cZ, 81, .inl h2)), (gn, .inl (cI, 324, .inl h3)), (to, .inr (9, [.ref sg, .int ln, .int wd])), (sg, .inl (cI, 81, .inl fg))] := hD
          have hl : lv_has ls 7 [(6, .int ed), (5, .int t_53), (4, .int (nI j)), (3, .int (nI i)), (0, .ref gr), (1, .ref to), (2, .int p2)] := hl
          have hI : kt_B gv (kt_gol p2 wd.toInt ln.toInt a_105 ((nI i).toInt * wd.toInt + (nI j).toInt)) := hI
          have hgB := hI
          have hgv : 0 ≤ gv.toInt ∧ gv.toInt ≤ 1 := by
            rcases hgB with ⟨h, -⟩ | ⟨h, -⟩ <;> rw [h] <;> decide
          have hgn := kt_zn hgv.1 hgv.2
          have hi_3 : vp_in t_53 81 := by exact kt_in (by omega) (by omega)
          refine va_zast hx hb hK hP hD hS 2 1 rfl rfl hi_3 dX0_lay_141 (fun H locs hP hD hS => ?_)
          have hgg : kt_r (upd h2 t_53.toNatClampNeg (vp_nar .boolean gv)) 81 0 1 := hgg.upd (by rw [hgn]; exact hgv.1) (by rw [hgn]; exact hgv.2)
          have hP : va_P D vwCl [(gr, .inr (0, [.ref gt, .ref gg, .ref gn, .int r_2, .int t_19])), (gt, .inl (cI, 81, .inl (upd h1 t_53.toNatClampNeg (kt_tp a_105)))), (gg, .inl (cZ, 81, .inl (upd h2 t_53.toNatClampNeg (vp_nar .boolean gv)))), (gn, .inl (cI, 324, .inl h3)), (to, .inr (9, [.ref sg, .int ln, .int wd])), (sg, .inl (cI, 81, .inl fg))] H := hP
          have hD : va_D A [(gr, .inr (0, [.ref gt, .ref gg, .ref gn, .int r_2, .int t_19])), (gt, .inl (cI, 81, .inl (upd h1 t_53.toNatClampNeg (kt_tp a_105)))), (gg, .inl (cZ, 81, .inl (upd h2 t_53.toNatClampNeg (vp_nar .boolean gv)))), (gn, .inl (cI, 324, .inl h3)), (to, .inr (9, [.ref sg, .int ln, .int wd])), (sg, .inl (cI, 81, .inl fg))] := hD
          refine lv_aload_n hx hb dX0_lay_142 rfl (lv_at hl 4 rfl) ?_
          refine va_get (D := D) (ci := 0) (C := RX0) (T := TX0) (N := 5) hx hb hts iw_X0_lay_X0 hown hK hP 0 rfl rfl 2 (by decide) (hts (.fieldLink RX0 19 "KingTable$Ground" "neighbours" "[I") (List.mem_cons_of_mem _ (List.mem_append_left _ (List.mem_append_left _ (List.mem_cons_of_mem _ (List.mem_cons_of_mem _ (List.mem_cons_of_mem _ (List.mem_cons_of_mem _ (List.Mem.head _))))))))) (fun _ h9 => h9) rfl dX0_lay_143 ?_
          refine lv_iload hx hb dX0_lay_146 (lv_at hl 1 rfl) ?_
          refine lv_iconst (v := 4) hx hb dX0_lay_148 (by decide) ?_
          refine lv_imul hx hb dX0_lay_149 ?_
          refine lv_topi (fun t_149 et_149 => ?_)
          obtain ⟨k_149, hk_149, hm_149, hM_149⟩ := kt_mulk (C := 4) et_149 (by decide)
          try simp only [kt_c0, kt_c1, kt_c2, kt_c3, kt_c4, kt_c8, kt_c9, kt_cm1, kt_c81, kt_c40, kt_c7, kt_c5, kt_c6, kt_c512, kt_c10, kt_c10000] at hk_149
          refine lv_iload_n hx hb dX0_lay_150 rfl (lv_at hl 3 rfl) ?_
          refine kt_join (σ := Int32) 165 7 (fun u => [(gr, .inr (0, [.ref gt, .ref gg, .ref gn, .int r_2, .int t_19])), (gt, .inl (cI, 81, .inl (upd h1 t_53.toNatClampNeg (kt_tp a_105)))), (gg, .inl (cZ, 81, .inl (upd h2 t_53.toNatClampNeg (vp_nar .boolean gv)))), (gn, .inl (cI, 324, .inl h3)), (to, .inr (9, [.ref sg, .int ln, .int wd])), (sg, .inl (cI, 81, .inl fg))]) (fun u => [(6, .int ed), (5, .int t_53), (4, .int (nI j)), (3, .int (nI i)), (0, .ref gr), (1, .ref to), (2, .int p2)]) (fun u => [.int u, .int t_149, .ref gn]) (fun u => (-1 ≤ u.toInt ∧ u.toInt ≤ 80) ∧ u.toInt = kt_al ((nI i).toInt * wd.toInt + (nI j).toInt) wd.toInt ln.toInt ((0 : Nat) : Int) 1) (D := D) (A := A) (H0 := s.heap) (fun u hI H locs hP hD hS ls hl => ?_) (fun j_165 => ?_)
          · obtain ⟨v0, rfl⟩ : ∃ z, z = u := ⟨_, rfl⟩
            have hP : va_P D vwCl [(gr, .inr (0, [.ref gt, .ref gg, .ref gn, .int r_2, .int t_19])), (gt, .inl (cI, 81, .inl (upd h1 t_53.toNatClampNeg (kt_tp a_105)))), (gg, .inl (cZ, 81, .inl (upd h2 t_53.toNatClampNeg (vp_nar .boolean gv)))), (gn, .inl (cI, 324, .inl h3)), (to, .inr (9, [.ref sg, .int ln, .int wd])), (sg, .inl (cI, 81, .inl fg))] H := hP
            have hD : va_D A [(gr, .inr (0, [.ref gt, .ref gg, .ref gn, .int r_2, .int t_19])), (gt, .inl (cI, 81, .inl (upd h1 t_53.toNatClampNeg (kt_tp a_105)))), (gg, .inl (cZ, 81, .inl (upd h2 t_53.toNatClampNeg (vp_nar .boolean gv)))), (gn, .inl (cI, 324, .inl h3)), (to, .inr (9, [.ref sg, .int ln, .int wd])), (sg, .inl (cI, 81, .inl fg))] := hD
            have hl : lv_has ls 7 [(6, .int ed), (5, .int t_53), (4, .int (nI j)), (3, .int (nI i)), (0, .ref gr), (1, .ref to), (2, .int p2)] := hl
            have hI : (-1 ≤ v0.toInt ∧ v0.toInt ≤ 80) ∧ v0.toInt = kt_al ((nI i).toInt * wd.toInt + (nI j).toInt) wd.toInt ln.toInt ((0 : Nat) : Int) 1 := hI
            have hv0 := hI
            have hi_4 : vp_in t_149 324 := by exact kt_in (by omega) (by omega)
            refine va_iast hx hb hK hP hD hS 3 0 rfl rfl hi_4 dX0_lay_165 (fun H locs hP hD hS => ?_)
            have hnb : kt_r (upd h3 t_149.toNatClampNeg v0) 324 (-1) 80 := hnb.upd (by omega) (by omega)
            have hP : va_P D vwCl [(gr, .inr (0, [.ref gt, .ref gg, .ref gn, .int r_2, .int t_19])), (gt, .inl (cI, 81, .inl (upd h1 t_53.toNatClampNeg (kt_tp a_105)))), (gg, .inl (cZ, 81, .inl (upd h2 t_53.toNatClampNeg (vp_nar .boolean gv)))), (gn, .inl (cI, 324, .inl (upd h3 t_149.toNatClampNeg v0))), (to, .inr (9, [.ref sg, .int ln, .int wd])), (sg, .inl (cI, 81, .inl fg))] H := hP
            have hD : va_D A [(gr, .inr (0, [.ref gt, .ref gg, .ref gn, .int r_2, .int t_19])), (gt, .inl (cI, 81, .inl (upd h1 t_53.toNatClampNeg (kt_tp a_105)))), (gg, .inl (cZ, 81, .inl (upd h2 t_53.toNatClampNeg (vp_nar .boolean gv)))), (gn, .inl (cI, 324, .inl (upd h3 t_149.toNatClampNeg v0))), (to, .inr (9, [.ref sg, .int ln, .int wd])), (sg, .inl (cI, 81, .inl fg))] := hD
            refine lv_aload_n hx hb dX0_lay_166 rfl (lv_at hl 4 rfl) ?_
            refine va_get (D := D) (ci := 0) (C := RX0) (T := TX0) (N := 5) hx hb hts iw_X0_lay_X0 hown hK hP 0 rfl rfl 2 (by decide) (hts (.fieldLink RX0 19 "KingTable$Ground" "neighbours" "[I") (List.mem_cons_of_mem _ (List.mem_append_left _ (List.mem_append_left _ (List.mem_cons_of_mem _ (List.mem_cons_of_mem _ (List.mem_cons_of_mem _ (List.mem_cons_of_mem _ (List.Mem.head _))))))))) (fun _ h9 => h9) rfl dX0_lay_167 ?_
            refine lv_iload hx hb dX0_lay_170 (lv_at hl 1 rfl) ?_
            refine lv_iconst (v := 4) hx hb dX0_lay_172 (by decide) ?_
            refine lv_imul hx hb dX0_lay_173 ?_
            refine lv_topi (fun t_173 et_173 => ?_)
            obtain ⟨k_173, hk_173, hm_173, hM_173⟩ := kt_mulk (C := 4) et_173 (by decide)
            try simp only [kt_c0, kt_c1, kt_c2, kt_c3, kt_c4, kt_c8, kt_c9, kt_cm1, kt_c81, kt_c40, kt_c7, kt_c5, kt_c6, kt_c512, kt_c10, kt_c10000] at hk_173
            refine lv_iconst (v := 1) hx hb dX0_lay_174 (by decide) ?_
            refine lv_iadd hx hb dX0_lay_175 ?_
            refine lv_topi (fun t_175 et_175 => ?_)
            first | have hk_175 := kt_addx et_175 (by first | omega | (simp only [kt_c0, kt_c1, kt_c2, kt_c3, kt_c4, kt_c8, kt_c9, kt_cm1, kt_c81, kt_c40, kt_c7, kt_c5, kt_c6, kt_c512, kt_c10, kt_c10000]; omega)) (by first | omega | (simp only [kt_c0, kt_c1, kt_c2, kt_c3, kt_c4, kt_c8, kt_c9, kt_cm1, kt_c81, kt_c40, kt_c7, kt_c5, kt_c6, kt_c512, kt_c10, kt_c10000]; omega)) | obtain ⟨k_175, hk_175, hm_175, hM_175⟩ := kt_addk et_175
            try simp only [kt_c0, kt_c1, kt_c2, kt_c3, kt_c4, kt_c8, kt_c9, kt_cm1, kt_c81, kt_c40, kt_c7, kt_c5, kt_c6, kt_c512, kt_c10, kt_c10000] at hk_175
            refine lv_iload hx hb dX0_lay_176 (lv_at hl 2 rfl) ?_
            refine lv_aload_n hx hb dX0_lay_178 rfl (lv_at hl 5 rfl) ?_
            refine va_getN (D := D) (ci := 9) (C := RX9) (T := TX9) (N := 3) hx hb hts iw_X0_lay_X9 hown hK hP 4 rfl rfl 2 (by decide) (va_Nw.use (w := .fieldLinkNest RX0 34 "KingTable$Told" "width" "I" "KingTable") rfl (hN _ (by decide +kernel))) (fun _ h9 => h9) rfl dX0_lay_179 ?_
            refine lv_iconst (v := 1) hx hb dX0_lay_182 (by decide) ?_
            refine lv_isub hx hb dX0_lay_183 ?_
            refine lv_topi (fun t_183 et_183 => ?_)
            first | have hk_183 := kt_subx et_183 (by first | omega | (simp only [kt_c0, kt_c1, kt_c2, kt_c3, kt_c4, kt_c8, kt_c9, kt_cm1, kt_c81, kt_c40, kt_c7, kt_c5, kt_c6, kt_c512, kt_c10, kt_c10000]; omega)) (by first | omega | (simp only [kt_c0, kt_c1, kt_c2, kt_c3, kt_c4, kt_c8, kt_c9, kt_cm1, kt_c81, kt_c40, kt_c7, kt_c5, kt_c6, kt_c512, kt_c10, kt_c10000]; omega)) | obtain ⟨k_183, hk_183, hm_183, hM_183⟩ := kt_subk et_183
            try simp only [kt_c0, kt_c1, kt_c2, kt_c3, kt_c4, kt_c8, kt_c9, kt_cm1, kt_c81, kt_c40, kt_c7, kt_c5, kt_c6, kt_c512, kt_c10, kt_c10000] at hk_183
            refine kt_join (σ := Int32) 195 7 (fun u => [(gr, .inr (0, [.ref gt, .ref gg, .ref gn, .int r_2, .int t_19])), (gt, .inl (cI, 81, .inl (upd h1 t_53.toNatClampNeg (kt_tp a_105)))), (gg, .inl (cZ, 81, .inl (upd h2 t_53.toNatClampNeg (vp_nar .boolean gv)))), (gn, .inl (cI, 324, .inl (upd h3 t_149.toNatClampNeg v0))), (to, .inr (9, [.ref sg, .int ln, .int wd])), (sg, .inl (cI, 81, .inl fg))]) (fun u => [(6, .int ed), (5, .int t_53), (4, .int (nI j)), (3, .int (nI i)), (0, .ref gr), (1, .ref to), (2, .int p2)]) (fun u => [.int u, .int t_175, .ref gn]) (fun u => (-1 ≤ u.toInt ∧ u.toInt ≤ 80) ∧ u.toInt = kt_al ((nI i).toInt * wd.toInt + (nI j).toInt) wd.toInt ln.toInt ((1 : Nat) : Int) 1) (D := D) (A := A) (H0 := s.heap) (fun u hI H locs hP hD hS ls hl => ?_) (fun j_195 => ?_)
            · obtain ⟨v1, rfl⟩ : ∃ z, z = u := ⟨_, rfl⟩
              have hP : va_P D vwCl [(gr, .inr (0, [.ref gt, .ref gg, .ref gn, .int r_2, .int t_19])), (gt, .inl (cI, 81, .inl (upd h1 t_53.toNatClampNeg (kt_tp a_105)))), (gg, .inl (cZ, 81, .inl (upd h2 t_53.toNatClampNeg (vp_nar .boolean gv)))), (gn, .inl (cI, 324, .inl (upd h3 t_149.toNatClampNeg v0))), (to, .inr (9, [.ref sg, .int ln, .int wd])), (sg, .inl (cI, 81, .inl fg))] H := hP
              have hD : va_D A [(gr, .inr (0, [.ref gt, .ref gg, .ref gn, .int r_2, .int t_19])), (gt, .inl (cI, 81, .inl (upd h1 t_53.toNatClampNeg (kt_tp a_105)))), (gg, .inl (cZ, 81, .inl (upd h2 t_53.toNatClampNeg (vp_nar .boolean gv)))), (gn, .inl (cI, 324, .inl (upd h3 t_149.toNatClampNeg v0))), (to, .inr (9, [.ref sg, .int ln, .int wd])), (sg, .inl (cI, 81, .inl fg))] := hD
              have hl : lv_has ls 7 [(6, .int ed), (5, .int t_53), (4, .int (nI j)), (3, .int (nI i)), (0, .ref gr), (1, .ref to), (2, .int p2)] := hl
              have hI : (-1 ≤ v1.toInt ∧ v1.toInt ≤ 80) ∧ v1.toInt = kt_al ((nI i).toInt * wd.toInt + (nI j).toInt) wd.toInt ln.toInt ((1 : Nat) : Int) 1 := hI
              have hv1 := hI
              have hi_5 : vp_in t_175 324 := by exact kt_in (by omega) (by omega)
              refine va_iast hx hb hK hP hD hS 3 0 rfl rfl hi_5 dX0_lay_195 (fun H locs hP hD hS => ?_)
              have hnb : kt_r (upd (upd h3 t_149.toNatClampNeg v0) t_175.toNatClampNeg v1) 324 (-1) 80 := hnb.upd (by omega) (by omega)
              have hP : va_P D vwCl [(gr, .inr (0, [.ref gt, .ref gg, .ref gn, .int r_2, .int t_19])), (gt, .inl (cI, 81, .inl (upd h1 t_53.toNatClampNeg (kt_tp a_105)))), (gg, .inl (cZ, 81, .inl (upd h2 t_53.toNatClampNeg (vp_nar .boolean gv)))), (gn, .inl (cI, 324, .inl (upd (upd h3 t_149.toNatClampNeg v0) t_175.toNatClampNeg v1))), (to, .inr (9, [.ref sg, .int ln, .int wd])), (sg, .inl (cI, 81, .inl fg))] H := hP
              have hD : va_D A [(gr, .inr (0, [.ref gt, .ref gg, .ref gn, .int r_2, .int t_19])), (gt, .inl (cI, 81, .inl (upd h1 t_53.toNatClampNeg (kt_tp a_105)))), (gg, .inl (cZ, 81, .inl (upd h2 t_53.toNatClampNeg (vp_nar .boolean gv)))), (gn, .inl (cI, 324, .inl (upd (upd h3 t_149.toNatClampNeg v0) t_175.toNatClampNeg v1))), (to, .inr (9, [.ref sg, .int ln, .int wd])), (sg, .inl (cI, 81, .inl fg))] := hD
              refine lv_aload_n hx hb dX0_lay_196 rfl (lv_at hl 4 rfl) ?_
              refine va_get (D := D) (ci := 0) (C := RX0) (T := TX0) (N := 5) hx hb hts iw_X0_lay_X0 hown hK hP 0 rfl rfl 2 (by decide) (hts (.fieldLink RX0 19 "KingTable$Ground" "neighbours" "[I") (List.mem_cons_of_mem _ (List.mem_append_left _ (List.mem_append_left _ (List.mem_cons_of_mem _ (List.mem_cons_of_mem _ (List.mem_cons_of_mem _ (List.mem_cons_of_mem _ (List.Mem.head _))))))))) (fun _ h9 => h9) rfl dX0_lay_197 ?_
              refine lv_iload hx hb dX0_lay_200 (lv_at hl 1 rfl) ?_
              refine lv_iconst (v := 4) hx hb dX0_lay_202 (by decide) ?_
              refine lv_imul hx hb dX0_lay_203 ?_
              refine lv_topi (fun t_203 et_203 => ?_)
              obtain ⟨k_203, hk_203, hm_203, hM_203⟩ := kt_mulk (C := 4) et_203 (by decide)
              try simp only [kt_c0, kt_c1, kt_c2, kt_c3, kt_c4, kt_c8, kt_c9, kt_cm1, kt_c81, kt_c40, kt_c7, kt_c5, kt_c6, kt_c512, kt_c10, kt_c10000] at hk_203
              refine lv_iconst (v := 2) hx hb dX0_lay_204 (by decide) ?_
              refine lv_iadd hx hb dX0_lay_205 ?_
              refine lv_topi (fun t_205 et_205 => ?_)
              first | have hk_205 := kt_addx et_205 (by first | omega | (simp only [kt_c0, kt_c1, kt_c2, kt_c3, kt_c4, kt_c8, kt_c9, kt_cm1, kt_c81, kt_c40, kt_c7, kt_c5, kt_c6, kt_c512, kt_c10, kt_c10000]; omega)) (by first | omega | (simp only [kt_c0, kt_c1, kt_c2, kt_c3, kt_c4, kt_c8, kt_c9, kt_cm1, kt_c81, kt_c40, kt_c7, kt_c5, kt_c6, kt_c512, kt_c10, kt_c10000]; omega)) | obtain ⟨k_205, hk_205, hm_205, hM_205⟩ := kt_addk et_205
              try simp only [kt_c0, kt_c1, kt_c2, kt_c3, kt_c4, kt_c8, kt_c9, kt_cm1, kt_c81, kt_c40, kt_c7, kt_c5, kt_c6, kt_c512, kt_c10, kt_c10000] at hk_205
              refine lv_iload_n hx hb dX0_lay_206 rfl (lv_at hl 3 rfl) ?_
              refine lv_aload_n hx hb dX0_lay_207 rfl (lv_at hl 5 rfl) ?_
              refine va_getN (D := D) (ci := 9) (C := RX9) (T := TX9) (N := 3) hx hb hts iw_X0_lay_X9 hown hK hP 4 rfl rfl 1 (by decide) (va_Nw.use (w := .fieldLinkNest RX0 31 "KingTable$Told" "lines" "I" "KingTable") rfl (hN _ (by decide +kernel))) (fun _ h9 => h9) rfl dX0_lay_208 ?_
              refine lv_iconst (v := 1) hx hb dX0_lay_211 (by decide) ?_
              refine lv_isub hx hb dX0_lay_212 ?_
              refine lv_topi (fun t_212 et_212 => ?_)
              first | have hk_212 := kt_subx et_212 (by first | omega | (simp only [kt_c0, kt_c1, kt_c2, kt_c3, kt_c4, kt_c8, kt_c9, kt_cm1, kt_c81, kt_c40, kt_c7, kt_c5, kt_c6, kt_c512, kt_c10, kt_c10000]; omega)) (by first | omega | (simp only [kt_c0, kt_c1, kt_c2, kt_c3, kt_c4, kt_c8, kt_c9, kt_cm1, kt_c81, kt_c40, kt_c7, kt_c5, kt_c6, kt_c512, kt_c10, kt_c10000]; omega)) | obtain ⟨k_212, hk_212, hm_212, hM_212⟩ := kt_subk et_212
              try simp only [kt_c0, kt_c1, kt_c2, kt_c3, kt_c4, kt_c8, kt_c9, kt_cm1, kt_c81, kt_c40, kt_c7, kt_c5, kt_c6, kt_c512, kt_c10, kt_c10000] at hk_212
              refine kt_join (σ := Int32) 227 7 (fun u => [(gr, .inr (0, [.ref gt, .ref gg, .ref gn, .int r_2, .int t_19])), (gt, .inl (cI, 81, .inl (upd h1 t_53.toNatClampNeg (kt_tp a_105)))), (gg, .inl (cZ, 81, .inl (upd h2 t_53.toNatClampNeg (vp_nar .boolean gv)))), (gn, .inl (cI, 324, .inl (upd (upd h3 t_149.toNatClampNeg v0) t_175.toNatClampNeg v1))), (to, .inr (9, [.ref sg, .int ln, .int wd])), (sg, .inl (cI, 81, .inl fg))]) (fun u => [(6, .int ed), (5, .int t_53), (4, .int (nI j)), (3, .int (nI i)), (0, .ref gr), (1, .ref to), (2, .int p2)]) (fun u => [.int u, .int t_205, .ref gn]) (fun u => (-1 ≤ u.toInt ∧ u.toInt ≤ 80) ∧ u.toInt = kt_al ((nI i).toInt * wd.toInt + (nI j).toInt) wd.toInt ln.toInt ((2 : Nat) : Int) 1) (D := D) (A := A) (H0 := s.heap) (fun u hI H locs hP hD hS ls hl => ?_) (fun j_227 => ?_)
              · obtain ⟨v2, rfl⟩ : ∃ z, z = u := ⟨_, rfl⟩
                have hP : va_P D vwCl [(gr, .inr (0, [.ref gt, .ref gg, .ref gn, .int r_2, .int t_19])), (gt, .inl (cI, 81, .inl (upd h1 t_53.toNatClampNeg (kt_tp a_105)))), (gg, .inl (cZ, 81, .inl (upd h2 t_53.toNatClampNeg (vp_nar .boolean gv)))), (gn, .inl (cI, 324, .inl (upd (upd h3 t_149.toNatClampNeg v0) t_175.toNatClampNeg v1))), (to, .inr (9, [.ref sg, .int ln, .int wd])), (sg, .inl (cI, 81, .inl fg))] H := hP
                have hD : va_D A [(gr, .inr (0, [.ref gt, .ref gg, .ref gn, .int r_2, .int t_19])), (gt, .inl (cI, 81, .inl (upd h1 t_53.toNatClampNeg (kt_tp a_105)))), (gg, .inl (cZ, 81, .inl (upd h2 t_53.toNatClampNeg (vp_nar .boolean gv)))), (gn, .inl (cI, 324, .inl (upd (upd h3 t_149.toNatClampNeg v0) t_175.toNatClampNeg v1))), (to, .inr (9, [.ref sg, .int ln, .int wd])), (sg, .inl (cI, 81, .inl fg))] := hD
                have hl : lv_has ls 7 [(6, .int ed), (5, .int t_53), (4, .int (nI j)), (3, .int (nI i)), (0, .ref gr), (1, .ref to), (2, .int p2)] := hl
                have hI : (-1 ≤ v2.toInt ∧ v2.toInt ≤ 80) ∧ v2.toInt = kt_al ((nI i).toInt * wd.toInt + (nI j).toInt) wd.toInt ln.toInt ((2 : Nat) : Int) 1 := hI
                have hv2 := hI
                have hi_6 : vp_in t_205 324 := by exact kt_in (by omega) (by omega)
                refine va_iast hx hb hK hP hD hS 3 0 rfl rfl hi_6 dX0_lay_227 (fun H locs hP hD hS => ?_)
                have hnb : kt_r (upd (upd (upd h3 t_149.toNatClampNeg v0) t_175.toNatClampNeg v1) t_205.toNatClampNeg v2) 324 (-1) 80 := hnb.upd (by omega) (by omega)
                have hP : va_P D vwCl [(gr, .inr (0, [.ref gt, .ref gg, .ref gn, .int r_2, .int t_19])), (gt, .inl (cI, 81, .inl (upd h1 t_53.toNatClampNeg (kt_tp a_105)))), (gg, .inl (cZ, 81, .inl (upd h2 t_53.toNatClampNeg (vp_nar .boolean gv)))), (gn, .inl (cI, 324, .inl (upd (upd (upd h3 t_149.toNatClampNeg v0) t_175.toNatClampNeg v1) t_205.toNatClampNeg v2))), (to, .inr (9, [.ref sg, .int ln, .int wd])), (sg, .inl (cI, 81, .inl fg))] H := hP
                have hD : va_D A [(gr, .inr (0, [.ref gt, .ref gg, .ref gn, .int r_2, .int t_19])), (gt, .inl (cI, 81, .inl (upd h1 t_53.toNatClampNeg (kt_tp a_105)))), (gg, .inl (cZ, 81, .inl (upd h2 t_53.toNatClampNeg (vp_nar .boolean gv)))), (gn, .inl (cI, 324, .inl (upd (upd (upd h3 t_149.toNatClampNeg v0) t_175.toNatClampNeg v1) t_205.toNatClampNeg v2))), (to, .inr (9, [.ref sg, .int ln, .int wd])), (sg, .inl (cI, 81, .inl fg))] := hD
                refine lv_aload_n hx hb dX0_lay_228 rfl (lv_at hl 4 rfl) ?_
                refine va_get (D := D) (ci := 0) (C := RX0) (T := TX0) (N := 5) hx hb hts iw_X0_lay_X0 hown hK hP 0 rfl rfl 2 (by decide) (hts (.fieldLink RX0 19 "KingTable$Ground" "neighbours" "[I") (List.mem_cons_of_mem _ (List.mem_append_left _ (List.mem_append_left _ (List.mem_cons_of_mem _ (List.mem_cons_of_mem _ (List.mem_cons_of_mem _ (List.mem_cons_of_mem _ (List.Mem.head _))))))))) (fun _ h9 => h9) rfl dX0_lay_229 ?_
                refine lv_iload hx hb dX0_lay_232 (lv_at hl 1 rfl) ?_
                refine lv_iconst (v := 4) hx hb dX0_lay_234 (by decide) ?_
                refine lv_imul hx hb dX0_lay_235 ?_
                refine lv_topi (fun t_235 et_235 => ?_)
                obtain ⟨k_235, hk_235, hm_235, hM_235⟩ := kt_mulk (C := 4) et_235 (by decide)
                try simp only [kt_c0, kt_c1, kt_c2, kt_c3, kt_c4, kt_c8, kt_c9, kt_cm1, kt_c81, kt_c40, kt_c7, kt_c5, kt_c6, kt_c512, kt_c10, kt_c10000] at hk_235
                refine lv_iconst (v := 3) hx hb dX0_lay_236 (by decide) ?_
                refine lv_iadd hx hb dX0_lay_237 ?_
                refine lv_topi (fun t_237 et_237 => ?_)
                first | have hk_237 := kt_addx et_237 (by first | omega | (simp only [kt_c0, kt_c1, kt_c2, kt_c3, kt_c4, kt_c8, kt_c9, kt_cm1, kt_c81, kt_c40, kt_c7, kt_c5, kt_c6, kt_c512, kt_c10, kt_c10000]; omega)) (by first | omega | (simp only [kt_c0, kt_c1, kt_c2, kt_c3, kt_c4, kt_c8, kt_c9, kt_cm1, kt_c81, kt_c40, kt_c7, kt_c5, kt_c6, kt_c512, kt_c10, kt_c10000]; omega)) | obtain ⟨k_237, hk_237, hm_237, hM_237⟩ := kt_addk et_237
                try simp only [kt_c0, kt_c1, kt_c2, kt_c3, kt_c4, kt_c8, kt_c9, kt_cm1, kt_c81, kt_c40, kt_c7, kt_c5, kt_c6, kt_c512, kt_c10, kt_c10000] at hk_237
                refine lv_iload hx hb dX0_lay_238 (lv_at hl 2 rfl) ?_
                refine kt_join (σ := Int32) 251 7 (fun u => [(gr, .inr (0, [.ref gt, .ref gg, .ref gn, .int r_2, .int t_19])), (gt, .inl (cI, 81, .inl (upd h1 t_53.toNatClampNeg (kt_tp a_105)))), (gg, .inl (cZ, 81, .inl (upd h2 t_53.toNatClampNeg (vp_nar .boolean gv)))), (gn, .inl (cI, 324, .inl (upd (upd (upd h3 t_149.toNatClampNeg v0) t_175.toNatClampNeg v1) t_205.toNatClampNeg v2))), (to, .inr (9, [.ref sg, .int ln, .int wd])), (sg, .inl (cI, 81, .inl fg))]) (fun u => [(6, .int ed), (5, .int t_53), (4, .int (nI j)), (3, .int (nI i)), (0, .ref gr), (1, .ref to), (2, .int p2)]) (fun u => [.int u, .int t_237, .ref gn]) (fun u => (-1 ≤ u.toInt ∧ u.toInt ≤ 80) ∧ u.toInt = kt_al ((nI i).toInt * wd.toInt + (nI j).toInt) wd.toInt ln.toInt ((3 : Nat) : Int) 1) (D := D) (A := A) (H0 := s.heap) (fun u hI H locs hP hD hS ls hl => ?_) (fun j_251 => ?_)
                · obtain ⟨v3, rfl⟩ : ∃ z, z = u := ⟨_, rfl⟩
                  have hP : va_P D vwCl [(gr, .inr (0, [.ref gt, .ref gg, .ref gn, .int r_2, .int t_19])), (gt, .inl (cI, 81, .inl (upd h1 t_53.toNatClampNeg (kt_tp a_105)))), (gg, .inl (cZ, 81, .inl (upd h2 t_53.toNatClampNeg (vp_nar .boolean gv)))), (gn, .inl (cI, 324, .inl (upd (upd (upd h3 t_149.toNatClampNeg v0) t_175.toNatClampNeg v1) t_205.toNatClampNeg v2))), (to, .inr (9, [.ref sg, .int ln, .int wd])), (sg, .inl (cI, 81, .inl fg))] H := hP
                  have hD : va_D A [(gr, .inr (0, [.ref gt, .ref gg, .ref gn, .int r_2, .int t_19])), (gt, .inl (cI, 81, .inl (upd h1 t_53.toNatClampNeg (kt_tp a_105)))), (gg, .inl (cZ, 81, .inl (upd h2 t_53.toNatClampNeg (vp_nar .boolean gv)))), (gn, .inl (cI, 324, .inl (upd (upd (upd h3 t_149.toNatClampNeg v0) t_175.toNatClampNeg v1) t_205.toNatClampNeg v2))), (to, .inr (9, [.ref sg, .int ln, .int wd])), (sg, .inl (cI, 81, .inl fg))] := hD
                  have hl : lv_has ls 7 [(6, .int ed), (5, .int t_53), (4, .int (nI j)), (3, .int (nI i)), (0, .ref gr), (1, .ref to), (2, .int p2)] := hl
                  have hI : (-1 ≤ v3.toInt ∧ v3.toInt ≤ 80) ∧ v3.toInt = kt_al ((nI i).toInt * wd.toInt + (nI j).toInt) wd.toInt ln.toInt ((3 : Nat) : Int) 1 := hI
                  have hv3 := hI
                  have hi_7 : vp_in t_237 324 := by exact kt_in (by omega) (by omega)
                  refine va_iast hx hb hK hP hD hS 3 0 rfl rfl hi_7 dX0_lay_251 (fun H locs hP hD hS => ?_)
                  have hnb : kt_r (upd (upd (upd (upd h3 t_149.toNatClampNeg v0) t_175.toNatClampNeg v1) t_205.toNatClampNeg v2) t_237.toNatClampNeg v3) 324 (-1) 80 := hnb.upd (by omega) (by omega)
                  have hP : va_P D vwCl [(gr, .inr (0, [.ref gt, .ref gg, .ref gn, .int r_2, .int t_19])), (gt, .inl (cI, 81, .inl (upd h1 t_53.toNatClampNeg (kt_tp a_105)))), (gg, .inl (cZ, 81, .inl (upd h2 t_53.toNatClampNeg (vp_nar .boolean gv)))), (gn, .inl (cI, 324, .inl (upd (upd (upd (upd h3 t_149.toNatClampNeg v0) t_175.toNatClampNeg v1) t_205.toNatClampNeg v2) t_237.toNatClampNeg v3))), (to, .inr (9, [.ref sg, .int ln, .int wd])), (sg, .inl (cI, 81, .inl fg))] H := hP
                  have hD : va_D A [(gr, .inr (0, [.ref gt, .ref gg, .ref gn, .int r_2, .int t_19])), (gt, .inl (cI, 81, .inl (upd h1 t_53.toNatClampNeg (kt_tp a_105)))), (gg, .inl (cZ, 81, .inl (upd h2 t_53.toNatClampNeg (vp_nar .boolean gv)))), (gn, .inl (cI, 324, .inl (upd (upd (upd (upd h3 t_149.toNatClampNeg v0) t_175.toNatClampNeg v1) t_205.toNatClampNeg v2) t_237.toNatClampNeg v3))), (to, .inr (9, [.ref sg, .int ln, .int wd])), (sg, .inl (cI, 81, .inl fg))] := hD
                  refine lv_iinc (v := nI (j + 1)) (lv' := [(4, .int (nI (j + 1))), (6, .int ed), (5, .int t_53), (3, .int (nI i)), (0, .ref gr), (1, .ref to), (2, .int p2)]) hx hb dX0_lay_252 hl (k := 2) rfl (nI_1 _) (by decide) rfl (fun ls hl => ?_)
                  refine lv_goto (tgt := 36) hx hb dX0_lay_255 (by decide) ?_
                  exact ih_36 ((j + 1), (upd h1 t_53.toNatClampNeg (kt_tp a_105)), (upd h2 t_53.toNatClampNeg (vp_nar .boolean gv)), (upd (upd (upd (upd h3 t_149.toNatClampNeg v0) t_175.toNatClampNeg v1) t_205.toNatClampNeg v2) t_237.toNatClampNeg v3)) (by show (((j + 1) ≤ 9 ∧ 9 < (j + 1) + n_36 ∧ ((j + 1) : Int) ≤ wd.toInt) ∧ kt_r (upd h1 t_53.toNatClampNeg (kt_tp a_105)) 81 0 2 ∧ kt_r (upd h2 t_53.toNatClampNeg (vp_nar .boolean gv)) 81 0 1 ∧ kt_r (upd (upd (upd (upd h3 t_149.toNatClampNeg v0) t_175.toNatClampNeg v1) t_205.toNatClampNeg v2) t_237.toNatClampNeg v3) 324 (-1) 80) ∧ ∀ f : Nat, (f : Int) < (nI i).toInt * wd.toInt + ((j + 1) : Int) → kt_gf fg p2 wd.toInt ln.toInt (upd h1 t_53.toNatClampNeg (kt_tp a_105)) (upd h2 t_53.toNatClampNeg (vp_nar .boolean gv)) (upd (upd (upd (upd h3 t_149.toNatClampNeg v0) t_175.toNatClampNeg v1) t_205.toNatClampNeg v2) t_237.toNatClampNeg v3) f; first
                                 | (refine ⟨⟨by omega, hgt, hgg, hnb⟩, fun f hf => ?_⟩
                                    by_cases e : (f : Int) = ((nI i).toInt * wd.toInt + (nI j).toInt)
                                    · have ef : t_53.toNatClampNeg = f := kt_clamp (by omega)
                                      have e0 : t_149.toNatClampNeg = 4 * f := kt_clamp (by omega)
                                      have e1 : t_175.toNatClampNeg = 4 * f + 1 := kt_clamp (by omega)
                                      have e2 : t_205.toNatClampNeg = 4 * f + 2 := kt_clamp (by omega)
                                      have e3 : t_237.toNatClampNeg = 4 * f + 3 := kt_clamp (by omega)
                                      rw [ef, e0, e1, e2, e3, hgn]
                                      rw [ef] at ea_105
                                      refine ⟨by rw [pk_us, ea_105], by rw [pk_us, e, ← ea_105]; exact hgB, fun a ha => ?_⟩
                                      rw [e]
                                      rcases (show a = 0 ∨ a = 1 ∨ a = 2 ∨ a = 3 by omega) with rfl | rfl | rfl | rfl
                                      · rw [pk_un (by omega), pk_un (by omega), pk_un (by omega), Nat.add_zero, pk_us]; exact hv0.2
                                      · rw [pk_un (by omega), pk_un (by omega), pk_us]; exact hv1.2
                                      · rw [pk_un (by omega), pk_us]; exact hv2.2
                                      · rw [pk_us]; exact hv3.2
                                    · have hgf0 := hgf f (by omega)
                                      have ef : ¬ f = t_53.toNatClampNeg := fun h => e (by have : f = t_53.toInt.toNat := h; omega)
                                      refine ⟨by rw [pk_un ef]; exact hgf0.1, by rw [pk_un ef]; exact hgf0.2.1, fun a ha => ?_⟩
                                      rw [pk_un (show 4 * f + a ≠ t_237.toNatClampNeg from (show 4 * f + a ≠ t_237.toInt.toNat by omega)), pk_un (show 4 * f + a ≠ t_205.toNatClampNeg from (show 4 * f + a ≠ t_205.toInt.toNat by omega)), pk_un (show 4 * f + a ≠ t_175.toNatClampNeg from (show 4 * f + a ≠ t_175.toInt.toNat by omega)), pk_un (show 4 * f + a ≠ t_149.toNatClampNeg from (show 4 * f + a ≠ t_149.toInt.toNat by omega))]
                                      exact hgf0.2.2 a ha)) H _ hP hD hS ls (lv_sub hl [0, 3, 4, 5, 6] rfl)
                refine lv_if_le (tgt := 250) hx hb dX0_lay_240 (by decide) (fun c_240 => ?_) (fun c_240 => ?_)
                · have d_240 := c_240
                  simp only [kt_lt, kt_le, kt_eq, kt_c0, kt_c1, kt_c2, kt_c3, kt_c4, kt_c8, kt_c9, kt_cm1, kt_c81, kt_c40, kt_c7, kt_c5, kt_c6, kt_c512, kt_c10, kt_c10000] at d_240
                  refine lv_iconst (v := (-1)) hx hb dX0_lay_250 (by decide) ?_
                  exact j_251 (-1 : Int32) (by show (-1 ≤ (-1 : Int32).toInt ∧ (-1 : Int32).toInt ≤ 80) ∧ (-1 : Int32).toInt = kt_al ((nI i).toInt * wd.toInt + (nI j).toInt) wd.toInt ln.toInt ((3 : Nat) : Int) 1; first | exact ⟨by omega, by show _ = kt_al _ _ _ 3 1; omega⟩ | exact ⟨by decide, by show _ = kt_al _ _ _ 3 1; rw [kt_cm1]; omega⟩) H _ hP hD hS ls (lv_sub hl [0, 1, 2, 3, 4, 5, 6] rfl)
                · have d_240 := c_240
                  simp only [kt_lt, kt_le, kt_eq, kt_c0, kt_c1, kt_c2, kt_c3, kt_c4, kt_c8, kt_c9, kt_cm1, kt_c81, kt_c40, kt_c7, kt_c5, kt_c6, kt_c512, kt_c10, kt_c10000] at d_240
                  refine lv_iload hx hb dX0_lay_243 (lv_at hl 1 rfl) ?_
                  refine lv_iconst (v := 1) hx hb dX0_lay_245 (by decide) ?_
                  refine lv_isub hx hb dX0_lay_246 ?_
                  refine lv_topi (fun t_246 et_246 => ?_)
                  first | have hk_246 := kt_subx et_246 (by first | omega | (simp only [kt_c0, kt_c1, kt_c2, kt_c3, kt_c4, kt_c8, kt_c9, kt_cm1, kt_c81, kt_c40, kt_c7, kt_c5, kt_c6, kt_c512, kt_c10, kt_c10000]; omega)) (by first | omega | (simp only [kt_c0, kt_c1, kt_c2, kt_c3, kt_c4, kt_c8, kt_c9, kt_cm1, kt_c81, kt_c40, kt_c7, kt_c5, kt_c6, kt_c512, kt_c10, kt_c10000]; omega)) | obtain ⟨k_246, hk_246, hm_246, hM_246⟩ := kt_subk et_246
                  try simp only [kt_c0, kt_c1, kt_c2, kt_c3, kt_c4, kt_c8, kt_c9, kt_cm1, kt_c81, kt_c40, kt_c7, kt_c5, kt_c6, kt_c512, kt_c10, kt_c10000] at hk_246
                  refine lv_goto (tgt := 251) hx hb dX0_lay_247 (by decide) ?_
                  exact j_251 t_246 (by show (-1 ≤ t_246.toInt ∧ t_246.toInt ≤ 80) ∧ t_246.toInt = kt_al ((nI i).toInt * wd.toInt + (nI j).toInt) wd.toInt ln.toInt ((3 : Nat) : Int) 1; first | exact ⟨by omega, by show _ = kt_al _ _ _ 3 1; omega⟩ | exact ⟨by decide, by show _ = kt_al _ _ _ 3 1; rw [kt_cm1]; omega⟩) H _ hP hD hS ls (lv_sub hl [0, 1, 2, 3, 4, 5, 6] rfl)
              refine lv_icmp_ge (tgt := 226) hx hb dX0_lay_213 (by decide) (fun c_213 => ?_) (fun c_213 => ?_)
              · have d_213 := c_213
                simp only [kt_lt, kt_le, kt_eq, kt_c0, kt_c1, kt_c2, kt_c3, kt_c4, kt_c8, kt_c9, kt_cm1, kt_c81, kt_c40, kt_c7, kt_c5, kt_c6, kt_c512, kt_c10, kt_c10000] at d_213
                refine lv_iconst (v := (-1)) hx hb dX0_lay_226 (by decide) ?_
                exact j_227 (-1 : Int32) (by show (-1 ≤ (-1 : Int32).toInt ∧ (-1 : Int32).toInt ≤ 80) ∧ (-1 : Int32).toInt = kt_al ((nI i).toInt * wd.toInt + (nI j).toInt) wd.toInt ln.toInt ((2 : Nat) : Int) 1; first | exact ⟨by omega, by show _ = kt_al _ _ _ 2 1; omega⟩ | exact ⟨by decide, by show _ = kt_al _ _ _ 2 1; rw [kt_cm1]; omega⟩) H _ hP hD hS ls (lv_sub hl [0, 1, 2, 3, 4, 5, 6] rfl)
              · have d_213 := c_213
                simp only [kt_lt, kt_le, kt_eq, kt_c0, kt_c1, kt_c2, kt_c3, kt_c4, kt_c8, kt_c9, kt_cm1, kt_c81, kt_c40, kt_c7, kt_c5, kt_c6, kt_c512, kt_c10, kt_c10000] at d_213
                refine lv_iload hx hb dX0_lay_216 (lv_at hl 1 rfl) ?_
                refine lv_aload_n hx hb dX0_lay_218 rfl (lv_at hl 5 rfl) ?_
                refine va_getN (D := D) (ci := 9) (C := RX9) (T := TX9) (N := 3) hx hb hts iw_X0_lay_X9 hown hK hP 4 rfl rfl 2 (by decide) (va_Nw.use (w := .fieldLinkNest RX0 34 "KingTable$Told" "width" "I" "KingTable") rfl (hN _ (by decide +kernel))) (fun _ h9 => h9) rfl dX0_lay_219 ?_
                refine lv_iadd hx hb dX0_lay_222 ?_
                refine lv_topi (fun t_222 et_222 => ?_)
                first | have hk_222 := kt_addx et_222 (by first | omega | (simp only [kt_c0, kt_c1, kt_c2, kt_c3, kt_c4, kt_c8, kt_c9, kt_cm1, kt_c81, kt_c40, kt_c7, kt_c5, kt_c6, kt_c512, kt_c10, kt_c10000]; omega)) (by first | omega | (simp only [kt_c0, kt_c1, kt_c2, kt_c3, kt_c4, kt_c8, kt_c9, kt_cm1, kt_c81, kt_c40, kt_c7, kt_c5, kt_c6, kt_c512, kt_c10, kt_c10000]; omega)) | obtain ⟨k_222, hk_222, hm_222, hM_222⟩ := kt_addk et_222
                refine lv_goto (tgt := 227) hx hb dX0_lay_223 (by decide) ?_
                exact j_227 t_222 (by show (-1 ≤ t_222.toInt ∧ t_222.toInt ≤ 80) ∧ t_222.toInt = kt_al ((nI i).toInt * wd.toInt + (nI j).toInt) wd.toInt ln.toInt ((2 : Nat) : Int) 1; first | exact ⟨by omega, by show _ = kt_al _ _ _ 2 1; omega⟩ | exact ⟨by decide, by show _ = kt_al _ _ _ 2 1; rw [kt_cm1]; omega⟩) H _ hP hD hS ls (lv_sub hl [0, 1, 2, 3, 4, 5, 6] rfl)
            refine lv_icmp_ge (tgt := 194) hx hb dX0_lay_184 (by decide) (fun c_184 => ?_) (fun c_184 => ?_)
            · have d_184 := c_184
              simp only [kt_lt, kt_le, kt_eq, kt_c0, kt_c1, kt_c2, kt_c3, kt_c4, kt_c8, kt_c9, kt_cm1, kt_c81, kt_c40, kt_c7, kt_c5, kt_c6, kt_c512, kt_c10, kt_c10000] at d_184
              refine lv_iconst (v := (-1)) hx hb dX0_lay_194 (by decide) ?_
              exact j_195 (-1 : Int32) (by show (-1 ≤ (-1 : Int32).toInt ∧ (-1 : Int32).toInt ≤ 80) ∧ (-1 : Int32).toInt = kt_al ((nI i).toInt * wd.toInt + (nI j).toInt) wd.toInt ln.toInt ((1 : Nat) : Int) 1; first | exact ⟨by omega, by show _ = kt_al _ _ _ 1 1; omega⟩ | exact ⟨by decide, by show _ = kt_al _ _ _ 1 1; rw [kt_cm1]; omega⟩) H _ hP hD hS ls (lv_sub hl [0, 1, 2, 3, 4, 5, 6] rfl)
            · have d_184 := c_184
              simp only [kt_lt, kt_le, kt_eq, kt_c0, kt_c1, kt_c2, kt_c3, kt_c4, kt_c8, kt_c9, kt_cm1, kt_c81, kt_c40, kt_c7, kt_c5, kt_c6, kt_c512, kt_c10, kt_c10000] at d_184
              refine lv_iload hx hb dX0_lay_187 (lv_at hl 1 rfl) ?_
              refine lv_iconst (v := 1) hx hb dX0_lay_189 (by decide) ?_
              refine lv_iadd hx hb dX0_lay_190 ?_
              refine lv_topi (fun t_190 et_190 => ?_)
              first | have hk_190 := kt_addx et_190 (by first | omega | (simp only [kt_c0, kt_c1, kt_c2, kt_c3, kt_c4, kt_c8, kt_c9, kt_cm1, kt_c81, kt_c40, kt_c7, kt_c5, kt_c6, kt_c512, kt_c10, kt_c10000]; omega)) (by first | omega | (simp only [kt_c0, kt_c1, kt_c2, kt_c3, kt_c4, kt_c8, kt_c9, kt_cm1, kt_c81, kt_c40, kt_c7, kt_c5, kt_c6, kt_c512, kt_c10, kt_c10000]; omega)) | obtain ⟨k_190, hk_190, hm_190, hM_190⟩ := kt_addk et_190
              try simp only [kt_c0, kt_c1, kt_c2, kt_c3, kt_c4, kt_c8, kt_c9, kt_cm1, kt_c81, kt_c40, kt_c7, kt_c5, kt_c6, kt_c512, kt_c10, kt_c10000] at hk_190
              refine lv_goto (tgt := 195) hx hb dX0_lay_191 (by decide) ?_
              exact j_195 t_190 (by show (-1 ≤ t_190.toInt ∧ t_190.toInt ≤ 80) ∧ t_190.toInt = kt_al ((nI i).toInt * wd.toInt + (nI j).toInt) wd.toInt ln.toInt ((1 : Nat) : Int) 1; first | exact ⟨by omega, by show _ = kt_al _ _ _ 1 1; omega⟩ | exact ⟨by decide, by show _ = kt_al _ _ _ 1 1; rw [kt_cm1]; omega⟩) H _ hP hD hS ls (lv_sub hl [0, 1, 2, 3, 4, 5, 6] rfl)
          refine lv_if_le (tgt := 164) hx hb dX0_lay_151 (by decide) (fun c_151 => ?_) (fun c_151 => ?_)
          · have d_151 := c_151
            simp only [kt_lt, kt_le, kt_eq, kt_c0, kt_c1, kt_c2, kt_c3, kt_c4, kt_c8, kt_c9, kt_cm1, kt_c81, kt_c40, kt_c7, kt_c5, kt_c6, kt_c512, kt_c10, kt_c10000] at d_151
            refine lv_iconst (v := (-1)) hx hb dX0_lay_164 (by decide) ?_
            exact j_165 (-1 : Int32) (by show (-1 ≤ (-1 : Int32).toInt ∧ (-1 : Int32).toInt ≤ 80) ∧ (-1 : Int32).toInt = kt_al ((nI i).toInt * wd.toInt + (nI j).toInt) wd.toInt ln.toInt ((0 : Nat) : Int) 1; first | exact ⟨by omega, by show _ = kt_al _ _ _ 0 1; omega⟩ | exact ⟨by decide, by show _ = kt_al _ _ _ 0 1; rw [kt_cm1]; omega⟩) H _ hP hD hS ls (lv_sub hl [0, 1, 2, 3, 4, 5, 6] rfl)
          · have d_151 := c_151
            simp only [kt_lt, kt_le, kt_eq, kt_c0, kt_c1, kt_c2, kt_c3, kt_c4, kt_c8, kt_c9, kt_cm1, kt_c81, kt_c40, kt_c7, kt_c5, kt_c6, kt_c512, kt_c10, kt_c10000] at d_151
            refine lv_iload hx hb dX0_lay_154 (lv_at hl 1 rfl) ?_
            refine lv_aload_n hx hb dX0_lay_156 rfl (lv_at hl 5 rfl) ?_
            refine va_getN (D := D) (ci := 9) (C := RX9) (T := TX9) (N := 3) hx hb hts iw_X0_lay_X9 hown hK hP 4 rfl rfl 2 (by decide) (va_Nw.use (w := .fieldLinkNest RX0 34 "KingTable$Told" "width" "I" "KingTable") rfl (hN _ (by decide +kernel))) (fun _ h9 => h9) rfl dX0_lay_157 ?_
            refine lv_isub hx hb dX0_lay_160 ?_
            refine lv_topi (fun t_160 et_160 => ?_)
            first | have hk_160 := kt_subx et_160 (by first | omega | (simp only [kt_c0, kt_c1, kt_c2, kt_c3, kt_c4, kt_c8, kt_c9, kt_cm1, kt_c81, kt_c40, kt_c7, kt_c5, kt_c6, kt_c512, kt_c10, kt_c10000]; omega)) (by first | omega | (simp only [kt_c0, kt_c1, kt_c2, kt_c3, kt_c4, kt_c8, kt_c9, kt_cm1, kt_c81, kt_c40, kt_c7, kt_c5, kt_c6, kt_c512, kt_c10, kt_c10000]; omega)) | obtain ⟨k_160, hk_160, hm_160, hM_160⟩ := kt_subk et_160
            refine lv_goto (tgt := 165) hx hb dX0_lay_161 (by decide) ?_
            exact j_165 t_160 (by show (-1 ≤ t_160.toInt ∧ t_160.toInt ≤ 80) ∧ t_160.toInt = kt_al ((nI i).toInt * wd.toInt + (nI j).toInt) wd.toInt ln.toInt ((0 : Nat) : Int) 1; first | exact ⟨by omega, by show _ = kt_al _ _ _ 0 1; omega⟩ | exact ⟨by decide, by show _ = kt_al _ _ _ 0 1; rw [kt_cm1]; omega⟩) H _ hP hD hS ls (lv_sub hl [0, 1, 2, 3, 4, 5, 6] rfl)
        refine lv_if_ne (tgt := 139) hx hb dX0_lay_117 (by decide) (fun c_117 => ?_) (fun c_117 => ?_)
        · have d_117 := c_117
          simp only [kt_lt, kt_le, kt_eq, kt_c0, kt_c1, kt_c2, kt_c3, kt_c4, kt_c8, kt_c9, kt_cm1, kt_c81, kt_c40, kt_c7, kt_c5, kt_c6, kt_c512, kt_c10, kt_c10000] at d_117
          refine lv_iload hx hb dX0_lay_139 (lv_at hl 0 rfl) ?_
          exact j_141 ed (by show kt_B ed (kt_gol p2 wd.toInt ln.toInt a_105 ((nI i).toInt * wd.toInt + (nI j).toInt)); first | exact Or.inl ⟨rfl, Or.inl ⟨c_117, by rw [pk_us] at ea_126; rw [← ea_126]; exact c_128⟩⟩ | exact Or.inr ⟨rfl, fun h => h.elim (fun h1 => c_128 (by rw [pk_us] at ea_126; rw [ea_126]; exact h1.2)) (fun h2 => h2.1 c_117)⟩ | exact hed.iff ⟨fun h => Or.inr ⟨c_117, h⟩, fun h => h.elim (fun h1 => absurd h1.1 c_117) (fun h2 => h2.2)⟩) H _ hP hD hS ls (lv_sub hl [0, 1, 2, 3, 4, 5, 6] rfl)
        · have d_117 := c_117
          simp only [kt_lt, kt_le, kt_eq, kt_c0, kt_c1, kt_c2, kt_c3, kt_c4, kt_c8, kt_c9, kt_cm1, kt_c81, kt_c40, kt_c7, kt_c5, kt_c6, kt_c512, kt_c10, kt_c10000] at d_117
          refine lv_aload_n hx hb dX0_lay_120 rfl (lv_at hl 4 rfl) ?_
          refine va_get (D := D) (ci := 0) (C := RX0) (T := TX0) (N := 5) hx hb hts iw_X0_lay_X0 hown hK hP 0 rfl rfl 0 (by decide) (hts (.fieldLink RX0 9 "KingTable$Ground" "types" "[I") (List.mem_cons_of_mem _ (List.mem_append_left _ (List.mem_append_left _ (List.mem_cons_of_mem _ (List.mem_cons_of_mem _ (List.Mem.head _))))))) (fun _ h9 => h9) rfl dX0_lay_121 ?_
          refine lv_iload hx hb dX0_lay_124 (lv_at hl 1 rfl) ?_
          have hi_8 : vp_in t_53 81 := by exact kt_in (by omega) (by omega)
          refine va_iald hx hb hK hP 1 0 rfl rfl hi_8 dX0_lay_126 ?_
          refine lv_topi (fun a_126 ea_126 => ?_)
          have ra_126 := hgt.get hi_8
          rw [← ea_126] at ra_126
          refine lv_iconst (v := 2) hx hb dX0_lay_127 (by decide) ?_
          refine lv_icmp_ne (tgt := 135) hx hb dX0_lay_128 (by decide) (fun c_128 => ?_) (fun c_128 => ?_)
          · have d_128 := c_128
            simp only [kt_lt, kt_le, kt_eq, kt_c0, kt_c1, kt_c2, kt_c3, kt_c4, kt_c8, kt_c9, kt_cm1, kt_c81, kt_c40, kt_c7, kt_c5, kt_c6, kt_c512, kt_c10, kt_c10000] at d_128
            refine lv_iconst (v := 0) hx hb dX0_lay_135 (by decide) ?_
            refine lv_goto (tgt := 141) hx hb dX0_lay_136 (by decide) ?_
            exact j_141 (0 : Int32) (by show kt_B (0 : Int32) (kt_gol p2 wd.toInt ln.toInt a_105 ((nI i).toInt * wd.toInt + (nI j).toInt)); first | exact Or.inl ⟨rfl, Or.inl ⟨c_117, by rw [pk_us] at ea_126; rw [← ea_126]; exact c_128⟩⟩ | exact Or.inr ⟨rfl, fun h => h.elim (fun h1 => c_128 (by rw [pk_us] at ea_126; rw [ea_126]; exact h1.2)) (fun h2 => h2.1 c_117)⟩ | exact hed.iff ⟨fun h => Or.inr ⟨c_117, h⟩, fun h => h.elim (fun h1 => absurd h1.1 c_117) (fun h2 => h2.2)⟩) H _ hP hD hS ls (lv_sub hl [0, 1, 2, 3, 4, 5, 6] rfl)
          · have d_128 := c_128
            simp only [kt_lt, kt_le, kt_eq, kt_c0, kt_c1, kt_c2, kt_c3, kt_c4, kt_c8, kt_c9, kt_cm1, kt_c81, kt_c40, kt_c7, kt_c5, kt_c6, kt_c512, kt_c10, kt_c10000] at d_128
            refine lv_iconst (v := 1) hx hb dX0_lay_131 (by decide) ?_
            refine lv_goto (tgt := 141) hx hb dX0_lay_132 (by decide) ?_
            exact j_141 (1 : Int32) (by show kt_B (1 : Int32) (kt_gol p2 wd.toInt ln.toInt a_105 ((nI i).toInt * wd.toInt + (nI j).toInt)); first | exact Or.inl ⟨rfl, Or.inl ⟨c_117, by rw [pk_us] at ea_126; rw [← ea_126]; exact c_128⟩⟩ | exact Or.inr ⟨rfl, fun h => h.elim (fun h1 => c_128 (by rw [pk_us] at ea_126; rw [ea_126]; exact h1.2)) (fun h2 => h2.1 c_117)⟩ | exact hed.iff ⟨fun h => Or.inr ⟨c_117, h⟩, fun h => h.elim (fun h1 => absurd h1.1 c_117) (fun h2 => h2.2)⟩) H _ hP hD hS ls (lv_sub hl [0, 1, 2, 3, 4, 5, 6] rfl)
      refine lv_if_eq (tgt := 86) hx hb dX0_lay_57 (by decide) (fun c_57 => ?_) (fun c_57 => ?_)
      · have d_57 := c_57
        simp only [kt_lt, kt_le, kt_eq, kt_c0, kt_c1, kt_c2, kt_c3, kt_c4, kt_c8, kt_c9, kt_cm1, kt_c81, kt_c40, kt_c7, kt_c5, kt_c6, kt_c512, kt_c10, kt_c10000] at d_57
        refine lv_iconst (v := 1) hx hb dX0_lay_86 (by decide) ?_
        refine lv_goto (tgt := 91) hx hb dX0_lay_87 (by decide) ?_
        exact j_91 (1 : Int32) (by show kt_B (1 : Int32) (kt_edge ((nI i).toInt * wd.toInt + (nI j).toInt) wd.toInt ln.toInt); unfold kt_edge; rw [hrc.1, hrc.2]; first | exact Or.inl ⟨rfl, by omega⟩ | exact Or.inr ⟨rfl, by omega⟩) H _ hP hD hS ls (lv_sub hl [0, 1, 2, 3, 4, 5] rfl)
      · have d_57 := c_57
        simp only [kt_lt, kt_le, kt_eq, kt_c0, kt_c1, kt_c2, kt_c3, kt_c4, kt_c8, kt_c9, kt_cm1, kt_c81, kt_c40, kt_c7, kt_c5, kt_c6, kt_c512, kt_c10, kt_c10000] at d_57
        refine lv_iload hx hb dX0_lay_60 (lv_at hl 1 rfl) ?_
        refine lv_if_eq (tgt := 86) hx hb dX0_lay_62 (by decide) (fun c_62 => ?_) (fun c_62 => ?_)
        · have d_62 := c_62
          simp only [kt_lt, kt_le, kt_eq, kt_c0, kt_c1, kt_c2, kt_c3, kt_c4, kt_c8, kt_c9, kt_cm1, kt_c81, kt_c40, kt_c7, kt_c5, kt_c6, kt_c512, kt_c10, kt_c10000] at d_62
          refine lv_iconst (v := 1) hx hb dX0_lay_86 (by decide) ?_
          refine lv_goto (tgt := 91) hx hb dX0_lay_87 (by decide) ?_
          exact j_91 (1 : Int32) (by show kt_B (1 : Int32) (kt_edge ((nI i).toInt * wd.toInt + (nI j).toInt) wd.toInt ln.toInt); unfold kt_edge; rw [hrc.1, hrc.2]; first | exact Or.inl ⟨rfl, by omega⟩ | exact Or.inr ⟨rfl, by omega⟩) H _ hP hD hS ls (lv_sub hl [0, 1, 2, 3, 4, 5] rfl)
        · have d_62 := c_62
          simp only [kt_lt, kt_le, kt_eq, kt_c0, kt_c1, kt_c2, kt_c3, kt_c4, kt_c8, kt_c9, kt_cm1, kt_c81, kt_c40, kt_c7, kt_c5, kt_c6, kt_c512, kt_c10, kt_c10000] at d_62
          refine lv_iload_n hx hb dX0_lay_65 rfl (lv_at hl 2 rfl) ?_
          refine lv_aload_n hx hb dX0_lay_66 rfl (lv_at hl 4 rfl) ?_
          refine va_getN (D := D) (ci := 9) (C := RX9) (T := TX9) (N := 3) hx hb hts iw_X0_lay_X9 hown hK hP 4 rfl rfl 1 (by decide) (va_Nw.use (w := .fieldLinkNest RX0 31 "KingTable$Told" "lines" "I" "KingTable") rfl (hN _ (by decide +kernel))) (fun _ h9 => h9) rfl dX0_lay_67 ?_
          refine lv_iconst (v := 1) hx hb dX0_lay_70 (by decide) ?_
          refine lv_isub hx hb dX0_lay_71 ?_
          refine lv_topi (fun t_71 et_71 => ?_)
          first | have hk_71 := kt_subx et_71 (by first | omega | (simp only [kt_c0, kt_c1, kt_c2, kt_c3, kt_c4, kt_c8, kt_c9, kt_cm1, kt_c81, kt_c40, kt_c7, kt_c5, kt_c6, kt_c512, kt_c10, kt_c10000]; omega)) (by first | omega | (simp only [kt_c0, kt_c1, kt_c2, kt_c3, kt_c4, kt_c8, kt_c9, kt_cm1, kt_c81, kt_c40, kt_c7, kt_c5, kt_c6, kt_c512, kt_c10, kt_c10000]; omega)) | obtain ⟨k_71, hk_71, hm_71, hM_71⟩ := kt_subk et_71
          try simp only [kt_c0, kt_c1, kt_c2, kt_c3, kt_c4, kt_c8, kt_c9, kt_cm1, kt_c81, kt_c40, kt_c7, kt_c5, kt_c6, kt_c512, kt_c10, kt_c10000] at hk_71
          refine lv_icmp_eq (tgt := 86) hx hb dX0_lay_72 (by decide) (fun c_72 => ?_) (fun c_72 => ?_)
          · have d_72 := c_72
            simp only [kt_lt, kt_le, kt_eq, kt_c0, kt_c1, kt_c2, kt_c3, kt_c4, kt_c8, kt_c9, kt_cm1, kt_c81, kt_c40, kt_c7, kt_c5, kt_c6, kt_c512, kt_c10, kt_c10000] at d_72
            refine lv_iconst (v := 1) hx hb dX0_lay_86 (by decide) ?_
            refine lv_goto (tgt := 91) hx hb dX0_lay_87 (by decide) ?_
            exact j_91 (1 : Int32) (by show kt_B (1 : Int32) (kt_edge ((nI i).toInt * wd.toInt + (nI j).toInt) wd.toInt ln.toInt); unfold kt_edge; rw [hrc.1, hrc.2]; first | exact Or.inl ⟨rfl, by omega⟩ | exact Or.inr ⟨rfl, by omega⟩) H _ hP hD hS ls (lv_sub hl [0, 1, 2, 3, 4, 5] rfl)
          · have d_72 := c_72
            simp only [kt_lt, kt_le, kt_eq, kt_c0, kt_c1, kt_c2, kt_c3, kt_c4, kt_c8, kt_c9, kt_cm1, kt_c81, kt_c40, kt_c7, kt_c5, kt_c6, kt_c512, kt_c10, kt_c10000] at d_72
            refine lv_iload hx hb dX0_lay_75 (lv_at hl 1 rfl) ?_
            refine lv_aload_n hx hb dX0_lay_77 rfl (lv_at hl 4 rfl) ?_
            refine va_getN (D := D) (ci := 9) (C := RX9) (T := TX9) (N := 3) hx hb hts iw_X0_lay_X9 hown hK hP 4 rfl rfl 2 (by decide) (va_Nw.use (w := .fieldLinkNest RX0 34 "KingTable$Told" "width" "I" "KingTable") rfl (hN _ (by decide +kernel))) (fun _ h9 => h9) rfl dX0_lay_78 ?_
            refine lv_iconst (v := 1) hx hb dX0_lay_81 (by decide) ?_
            refine lv_isub hx hb dX0_lay_82 ?_
            refine lv_topi (fun t_82 et_82 => ?_)
            first | have hk_82 := kt_subx et_82 (by first | omega | (simp only [kt_c0, kt_c1, kt_c2, kt_c3, kt_c4, kt_c8, kt_c9, kt_cm1, kt_c81, kt_c40, kt_c7, kt_c5, kt_c6, kt_c512, kt_c10, kt_c10000]; omega)) (by first | omega | (simp only [kt_c0, kt_c1, kt_c2, kt_c3, kt_c4, kt_c8, kt_c9, kt_cm1, kt_c81, kt_c40, kt_c7, kt_c5, kt_c6, kt_c512, kt_c10, kt_c10000]; omega)) | obtain ⟨k_82, hk_82, hm_82, hM_82⟩ := kt_subk et_82
            try simp only [kt_c0, kt_c1, kt_c2, kt_c3, kt_c4, kt_c8, kt_c9, kt_cm1, kt_c81, kt_c40, kt_c7, kt_c5, kt_c6, kt_c512, kt_c10, kt_c10000] at hk_82
            refine lv_icmp_ne (tgt := 90) hx hb dX0_lay_83 (by decide) (fun c_83 => ?_) (fun c_83 => ?_)
            · have d_83 := c_83
              simp only [kt_lt, kt_le, kt_eq, kt_c0, kt_c1, kt_c2, kt_c3, kt_c4, kt_c8, kt_c9, kt_cm1, kt_c81, kt_c40, kt_c7, kt_c5, kt_c6, kt_c512, kt_c10, kt_c10000] at d_83
              refine lv_iconst (v := 0) hx hb dX0_lay_90 (by decide) ?_
              exact j_91 (0 : Int32) (by show kt_B (0 : Int32) (kt_edge ((nI i).toInt * wd.toInt + (nI j).toInt) wd.toInt ln.toInt); unfold kt_edge; rw [hrc.1, hrc.2]; first | exact Or.inl ⟨rfl, by omega⟩ | exact Or.inr ⟨rfl, by omega⟩) H _ hP hD hS ls (lv_sub hl [0, 1, 2, 3, 4, 5] rfl)
            · have d_83 := c_83
              simp only [kt_lt, kt_le, kt_eq, kt_c0, kt_c1, kt_c2, kt_c3, kt_c4, kt_c8, kt_c9, kt_cm1, kt_c81, kt_c40, kt_c7, kt_c5, kt_c6, kt_c512, kt_c10, kt_c10000] at d_83
              refine lv_iconst (v := 1) hx hb dX0_lay_86 (by decide) ?_
              refine lv_goto (tgt := 91) hx hb dX0_lay_87 (by decide) ?_
              exact j_91 (1 : Int32) (by show kt_B (1 : Int32) (kt_edge ((nI i).toInt * wd.toInt + (nI j).toInt) wd.toInt ln.toInt); unfold kt_edge; rw [hrc.1, hrc.2]; first | exact Or.inl ⟨rfl, by omega⟩ | exact Or.inr ⟨rfl, by omega⟩) H _ hP hD hS ls (lv_sub hl [0, 1, 2, 3, 4, 5] rfl)

set_option maxHeartbeats 4000000 in
set_option maxRecDepth 100000 in
theorem c_X0_besideE (l : Launch) (D : va_G) (cI cZ cB : ClassId) (sz : Nat) (gr : Nat) (gt : Nat) (gg : Nat) (gn : Nat) (gs : Int32) (gm : Int32) (nb : Nat → Int32) (w_ : Int) (L_ : Int) (p1 : Int32) (p2 : Int32) (hgs : 0 ≤ gs.toInt ∧ gs.toInt ≤ 81) (hnb : kt_r nb 324 (-1) 80) (hgx : gs.toInt = L_ * w_ ∧ (2 ≤ w_ ∧ w_ ≤ 9) ∧ (2 ≤ L_ ∧ L_ ≤ 9)) (hnx : ∀ f : Nat, (f : Int) < L_ * w_ → ∀ a : Nat, a < 4 → (nb (4 * f + a)).toInt = kt_al (f : Int) w_ L_ a 1) : kt_Mi l yX0_beside wsX0_beside { frames := 0, cells := 0, slots := 0, locals := 0 } D (kt_ty cI cZ cB) [.ref gr, .int p1, .int p2] sz [(gr, .inr (0, [.ref gt, .ref gg, .ref gn, .int gs, .int gm])), (gn, .inl (cI, 324, .inl nb))] (fun (r : Int32) (u : Unit) => ((0 ≤ p1.toInt ∧ p1.toInt < L_ * w_ ∧ 0 ≤ p2.toInt ∧ p2.toInt < 4) → r.toInt = kt_al p1.toInt w_ L_ p2.toInt 1) ∧ (¬ (0 ≤ p1.toInt ∧ p1.toInt < L_ * w_ ∧ 0 ≤ p2.toInt ∧ p2.toInt < 4) → r.toInt = -1) ∧ -1 ≤ r.toInt ∧ r.toInt ≤ 80) (fun (u : Unit) => [(gr, .inr (0, [.ref gt, .ref gg, .ref gn, .int gs, .int gm])), (gn, .inl (cI, 324, .inl nb))]) 0 0 := by
  refine kt_Mi.of (cc := cX0_beside) (maxL := 4) (ret := some .int) (by decide) rfl (Nat.le_of_ble_eq_true rfl) ?_
  intro p e s m below meth c A ls H hAt hP hD hS hl
  obtain ⟨hx, hb, hr, hml, hown, hts, hN, hK, hlk, hnm, hA⟩ := hAt
  have hl : lv_has ls 4 [(0, .ref gr), (1, .int p1), (2, .int p2)] := hl
  have hown : s.vm.findClass RX0 = some m.cls := hown
  refine lv_iload_n hx hb dX0_beside_0 rfl (lv_at hl 1 rfl) ?_
  refine lv_if_lt (tgt := 25) hx hb dX0_beside_1 (by decide) (fun c_1 => ?_) (fun c_1 => ?_)
  · have d_1 := c_1
    simp only [kt_lt, kt_le, kt_eq, kt_c0, kt_c1, kt_c2, kt_c3, kt_c4, kt_c8, kt_c9, kt_cm1, kt_c81, kt_c40, kt_c7, kt_c5, kt_c6, kt_c512, kt_c10, kt_c10000] at d_1
    refine lv_iconst (v := 0) hx hb dX0_beside_25 (by decide) ?_
    refine lv_istore_n (lv' := [(3, .int 0), (0, .ref gr), (1, .int p1), (2, .int p2)]) hx hb dX0_beside_26 rfl hl (by decide) rfl (fun ls hl => ?_)
    refine lv_iload_n hx hb dX0_beside_27 rfl (lv_at hl 0 rfl) ?_
    refine lv_if_eq (tgt := 44) hx hb dX0_beside_28 (by decide) (fun c_28 => ?_) (fun c_28 => absurd c_28 (by decide))
    refine lv_iconst (v := (-1)) hx hb dX0_beside_44 (by decide) ?_
    exact kt_ri () hx hb hr hlk hS dX0_beside_45 hP hD (by show ((0 ≤ p1.toInt ∧ p1.toInt < L_ * w_ ∧ 0 ≤ p2.toInt ∧ p2.toInt < 4) → (-1 : Int32).toInt = kt_al p1.toInt w_ L_ p2.toInt 1) ∧ (¬ (0 ≤ p1.toInt ∧ p1.toInt < L_ * w_ ∧ 0 ≤ p2.toInt ∧ p2.toInt < 4) → (-1 : Int32).toInt = -1) ∧ -1 ≤ (-1 : Int32).toInt ∧ (-1 : Int32).toInt ≤ 80; first | exact ⟨fun _ => hnx0, fun h => absurd (by omega) h, by omega⟩ | exact ⟨fun h => by exfalso; omega, fun _ => by decide, by decide⟩)
  · have d_1 := c_1
    simp only [kt_lt, kt_le, kt_eq, kt_c0, kt_c1, kt_c2, kt_c3, kt_c4, kt_c8, kt_c9, kt_cm1, kt_c81, kt_c40, kt_c7, kt_c5, kt_c6, kt_c512, kt_c10, kt_c10000] at d_1
    refine lv_iload_n hx hb dX0_beside_4 rfl (lv_at hl 1 rfl) ?_
    refine lv_aload_n hx hb dX0_beside_5 rfl (lv_at hl 0 rfl) ?_
    refine va_get (D := D) (ci := 0) (C := RX0) (T := TX0) (N := 5) hx hb hts iw_X0_beside_X0 hown hK hP 0 rfl rfl 3 (by decide) (hts (.fieldLink RX0 28 "KingTable$Ground" "size" "I") (List.mem_cons_of_mem _ (List.mem_append_left _ (List.Mem.head _)))) (fun _ h9 => h9) rfl dX0_beside_6 ?_
    refine lv_icmp_ge (tgt := 25) hx hb dX0_beside_9 (by decide) (fun c_9 => ?_) (fun c_9 => ?_)
    · have d_9 := c_9
      simp only [kt_lt, kt_le, kt_eq, kt_c0, kt_c1, kt_c2, kt_c3, kt_c4, kt_c8, kt_c9, kt_cm1, kt_c81, kt_c40, kt_c7, kt_c5, kt_c6, kt_c512, kt_c10, kt_c10000] at d_9
      refine lv_iconst (v := 0) hx hb dX0_beside_25 (by decide) ?_
      refine lv_istore_n (lv' := [(3, .int 0), (0, .ref gr), (1, .int p1), (2, .int p2)]) hx hb dX0_beside_26 rfl hl (by decide) rfl (fun ls hl => ?_)
      refine lv_iload_n hx hb dX0_beside_27 rfl (lv_at hl 0 rfl) ?_
      refine lv_if_eq (tgt := 44) hx hb dX0_beside_28 (by decide) (fun c_28 => ?_) (fun c_28 => absurd c_28 (by decide))
      refine lv_iconst (v := (-1)) hx hb dX0_beside_44 (by decide) ?_
      exact kt_ri () hx hb hr hlk hS dX0_beside_45 hP hD (by show ((0 ≤ p1.toInt ∧ p1.toInt < L_ * w_ ∧ 0 ≤ p2.toInt ∧ p2.toInt < 4) → (-1 : Int32).toInt = kt_al p1.toInt w_ L_ p2.toInt 1) ∧ (¬ (0 ≤ p1.toInt ∧ p1.toInt < L_ * w_ ∧ 0 ≤ p2.toInt ∧ p2.toInt < 4) → (-1 : Int32).toInt = -1) ∧ -1 ≤ (-1 : Int32).toInt ∧ (-1 : Int32).toInt ≤ 80; first | exact ⟨fun _ => hnx0, fun h => absurd (by omega) h, by omega⟩ | exact ⟨fun h => by exfalso; omega, fun _ => by decide, by decide⟩)
    · have d_9 := c_9
      simp only [kt_lt, kt_le, kt_eq, kt_c0, kt_c1, kt_c2, kt_c3, kt_c4, kt_c8, kt_c9, kt_cm1, kt_c81, kt_c40, kt_c7, kt_c5, kt_c6, kt_c512, kt_c10, kt_c10000] at d_9
      refine lv_iload_n hx hb dX0_beside_12 rfl (lv_at hl 2 rfl) ?_
      refine lv_if_lt (tgt := 25) hx hb dX0_beside_13 (by decide) (fun c_13 => ?_) (fun c_13 => ?_)
      · have d_13 := c_13
        simp only [kt_lt, kt_le, kt_eq, kt_c0, kt_c1, kt_c2, kt_c3, kt_c4, kt_c8, kt_c9, kt_cm1, kt_c81, kt_c40, kt_c7, kt_c5, kt_c6, kt_c512, kt_c10, kt_c10000] at d_13
        refine lv_iconst (v := 0) hx hb dX0_beside_25 (by decide) ?_
        refine lv_istore_n (lv' := [(3, .int 0), (0, .ref gr), (1, .int p1), (2, .int p2)]) hx hb dX0_beside_26 rfl hl (by decide) rfl (fun ls hl => ?_)
        refine lv_iload_n hx hb dX0_beside_27 rfl (lv_at hl 0 rfl) ?_
        refine lv_if_eq (tgt := 44) hx hb dX0_beside_28 (by decide) (fun c_28 => ?_) (fun c_28 => absurd c_28 (by decide))
        refine lv_iconst (v := (-1)) hx hb dX0_beside_44 (by decide) ?_
        exact kt_ri () hx hb hr hlk hS dX0_beside_45 hP hD (by show ((0 ≤ p1.toInt ∧ p1.toInt < L_ * w_ ∧ 0 ≤ p2.toInt ∧ p2.toInt < 4) → (-1 : Int32).toInt = kt_al p1.toInt w_ L_ p2.toInt 1) ∧ (¬ (0 ≤ p1.toInt ∧ p1.toInt < L_ * w_ ∧ 0 ≤ p2.toInt ∧ p2.toInt < 4) → (-1 : Int32).toInt = -1) ∧ -1 ≤ (-1 : Int32).toInt ∧ (-1 : Int32).toInt ≤ 80; first | exact ⟨fun _ => hnx0, fun h => absurd (by omega) h, by omega⟩ | exact ⟨fun h => by exfalso; omega, fun _ => by decide, by decide⟩)
      · have d_13 := c_13
        simp only [kt_lt, kt_le, kt_eq, kt_c0, kt_c1, kt_c2, kt_c3, kt_c4, kt_c8, kt_c9, kt_cm1, kt_c81, kt_c40, kt_c7, kt_c5, kt_c6, kt_c512, kt_c10, kt_c10000] at d_13
        refine lv_iload_n hx hb dX0_beside_16 rfl (lv_at hl 2 rfl) ?_
        refine lv_iconst (v := 4) hx hb dX0_beside_17 (by decide) ?_
        refine lv_icmp_ge (tgt := 25) hx hb dX0_beside_18 (by decide) (fun c_18 => ?_) (fun c_18 => ?_)
        · have d_18 := c_18
          simp only [kt_lt, kt_le, kt_eq, kt_c0, kt_c1, kt_c2, kt_c3, kt_c4, kt_c8, kt_c9, kt_cm1, kt_c81, kt_c40, kt_c7, kt_c5, kt_c6, kt_c512, kt_c10, kt_c10000] at d_18
          refine lv_iconst (v := 0) hx hb dX0_beside_25 (by decide) ?_
          refine lv_istore_n (lv' := [(3, .int 0), (0, .ref gr), (1, .int p1), (2, .int p2)]) hx hb dX0_beside_26 rfl hl (by decide) rfl (fun ls hl => ?_)
          refine lv_iload_n hx hb dX0_beside_27 rfl (lv_at hl 0 rfl) ?_
          refine lv_if_eq (tgt := 44) hx hb dX0_beside_28 (by decide) (fun c_28 => ?_) (fun c_28 => absurd c_28 (by decide))
          refine lv_iconst (v := (-1)) hx hb dX0_beside_44 (by decide) ?_
          exact kt_ri () hx hb hr hlk hS dX0_beside_45 hP hD (by show ((0 ≤ p1.toInt ∧ p1.toInt < L_ * w_ ∧ 0 ≤ p2.toInt ∧ p2.toInt < 4) → (-1 : Int32).toInt = kt_al p1.toInt w_ L_ p2.toInt 1) ∧ (¬ (0 ≤ p1.toInt ∧ p1.toInt < L_ * w_ ∧ 0 ≤ p2.toInt ∧ p2.toInt < 4) → (-1 : Int32).toInt = -1) ∧ -1 ≤ (-1 : Int32).toInt ∧ (-1 : Int32).toInt ≤ 80; first | exact ⟨fun _ => hnx0, fun h => absurd (by omega) h, by omega⟩ | exact ⟨fun h => by exfalso; omega, fun _ => by decide, by decide⟩)
        · have d_18 := c_18
          simp only [kt_lt, kt_le, kt_eq, kt_c0, kt_c1, kt_c2, kt_c3, kt_c4, kt_c8, kt_c9, kt_cm1, kt_c81, kt_c40, kt_c7, kt_c5, kt_c6, kt_c512, kt_c10, kt_c10000] at d_18
          refine lv_iconst (v := 1) hx hb dX0_beside_21 (by decide) ?_
          refine lv_goto (tgt := 26) hx hb dX0_beside_22 (by decide) ?_
          refine lv_istore_n (lv' := [(3, .int 1), (0, .ref gr), (1, .int p1), (2, .int p2)]) hx hb dX0_beside_26 rfl hl (by decide) rfl (fun ls hl => ?_)
          refine lv_iload_n hx hb dX0_beside_27 rfl (lv_at hl 0 rfl) ?_
          refine lv_if_eq (tgt := 44) hx hb dX0_beside_28 (by decide) (fun c_28 => absurd c_28 (by decide)) (fun c_28 => ?_)
          refine lv_aload_n hx hb dX0_beside_31 rfl (lv_at hl 1 rfl) ?_
          refine va_get (D := D) (ci := 0) (C := RX0) (T := TX0) (N := 5) hx hb hts iw_X0_beside_X0 hown hK hP 0 rfl rfl 2 (by decide) (hts (.fieldLink RX0 19 "KingTable$Ground" "neighbours" "[I") (List.mem_cons_of_mem _ (List.mem_append_left _ (List.mem_cons_of_mem _ (List.Mem.head _))))) (fun _ h9 => h9) rfl dX0_beside_32 ?_
          refine lv_iload_n hx hb dX0_beside_35 rfl (lv_at hl 2 rfl) ?_
          refine lv_iconst (v := 4) hx hb dX0_beside_36 (by decide) ?_
          refine lv_imul hx hb dX0_beside_37 ?_
          refine lv_topi (fun t_37 et_37 => ?_)
          obtain ⟨k_37, hk_37, hm_37, hM_37⟩ := kt_mulk (C := 4) et_37 (by decide)
          try simp only [kt_c0, kt_c1, kt_c2, kt_c3, kt_c4, kt_c8, kt_c9, kt_cm1, kt_c81, kt_c40, kt_c7, kt_c5, kt_c6, kt_c512, kt_c10, kt_c10000] at hk_37
          refine lv_iload_n hx hb dX0_beside_38 rfl (lv_at hl 3 rfl) ?_
          refine lv_iadd hx hb dX0_beside_39 ?_
          refine lv_topi (fun t_39 et_39 => ?_)
          first | have hk_39 := kt_addx et_39 (by first | omega | (simp only [kt_c0, kt_c1, kt_c2, kt_c3, kt_c4, kt_c8, kt_c9, kt_cm1, kt_c81, kt_c40, kt_c7, kt_c5, kt_c6, kt_c512, kt_c10, kt_c10000]; omega)) (by first | omega | (simp only [kt_c0, kt_c1, kt_c2, kt_c3, kt_c4, kt_c8, kt_c9, kt_cm1, kt_c81, kt_c40, kt_c7, kt_c5, kt_c6, kt_c512, kt_c10, kt_c10000]; omega)) | obtain ⟨k_39, hk_39, hm_39, hM_39⟩ := kt_addk et_39
          have hi_1 : vp_in t_39 324 := by exact kt_in (by omega) (by omega)
          refine va_iald hx hb hK hP 1 0 rfl rfl hi_1 dX0_beside_40 ?_
          refine lv_topi (fun a_40 ea_40 => ?_)
          have ra_40 := hnb.get hi_1
          rw [← ea_40] at ra_40
          have hnx0 := hnx p1.toInt.toNat (by omega) p2.toInt.toNat (by omega)
          rw [kt_clamp (n := 4 * p1.toInt.toNat + p2.toInt.toNat) (by omega)] at ea_40
          rw [← ea_40, show ((p1.toInt.toNat : Nat) : Int) = p1.toInt by omega, show ((p2.toInt.toNat : Nat) : Int) = p2.toInt by omega] at hnx0
          refine lv_goto (tgt := 45) hx hb dX0_beside_41 (by decide) ?_
          exact kt_ri () hx hb hr hlk hS dX0_beside_45 hP hD (by show ((0 ≤ p1.toInt ∧ p1.toInt < L_ * w_ ∧ 0 ≤ p2.toInt ∧ p2.toInt < 4) → a_40.toInt = kt_al p1.toInt w_ L_ p2.toInt 1) ∧ (¬ (0 ≤ p1.toInt ∧ p1.toInt < L_ * w_ ∧ 0 ≤ p2.toInt ∧ p2.toInt < 4) → a_40.toInt = -1) ∧ -1 ≤ a_40.toInt ∧ a_40.toInt ≤ 80; first | exact ⟨fun _ => hnx0, fun h => absurd (by omega) h, by omega⟩ | exact ⟨fun h => by exfalso; omega, fun _ => by decide, by decide⟩)
