theorem iw_X5_isBarred_X5 : ∀ w ∈ wsX50, w ∈ wsX5_isBarred := fun _ h => kt_wp_X5_isBarred__X50 h
theorem iw_X5_isBarred_X6 : ∀ w ∈ wsX60, w ∈ wsX5_isBarred := fun _ h => kt_wp_X5_isBarred__X60 h
set_option maxHeartbeats 4000000 in
set_option maxRecDepth 100000 in
theorem c_X5_isBarred (l : Launch) (D : va_G) (cI cZ cB : ClassId) (sz : Nat) (ho : Nat) (ora : Nat) (osa : Nat) (ru : Nat) (la : Nat) (gr : Nat) (rk : Nat) (rs : Nat) (rt : Nat) (rv : Nat) (tt : Int32) (kg : Int32) (vc : Int32) (nw : Nat) (sf : Nat) (sh : Nat) (tu : Int32) (fh : Nat → Int32) (fs : Nat → Int32) (p1 : Int32) (p2 : Int32) (htt : 0 ≤ tt.toInt ∧ tt.toInt ≤ 40) (hfh : kt_r fh 81 (-1) 39) (hrs : kt_r fs 40 0 1) : kt_Mi l yX5_isBarred wsX5_isBarred { frames := 1, cells := 0, slots := 0, locals := 21 } D (kt_ty cI cZ cB) [.ref ho, .ref nw, .int p1, .int p2] sz [(ho, .inr (5, [.ref ru, .ref ora, .ref osa])), (ru, .inr (6, [.ref la, .ref gr, .ref rk, .ref rs, .ref rt, .int tt, .int kg, .ref rv, .int vc])), (nw, .inr (8, [.ref sf, .ref sh, .int tu])), (sh, .inl (cI, 81, .inl fh)), (rs, .inl (cI, 40, .inl fs))] (fun (r : Int32) (u : Unit) => 0 ≤ r.toInt ∧ r.toInt ≤ 1) (fun (u : Unit) => [(ho, .inr (5, [.ref ru, .ref ora, .ref osa])), (ru, .inr (6, [.ref la, .ref gr, .ref rk, .ref rs, .ref rt, .int tt, .int kg, .ref rv, .int vc])), (nw, .inr (8, [.ref sf, .ref sh, .int tu])), (sh, .inl (cI, 81, .inl fh)), (rs, .inl (cI, 40, .inl fs))]) 0 0 := by
  refine kt_Mi.of (cc := cX5_isBarred) (maxL := 5) (ret := some .boolean) (by decide) rfl (Nat.le_of_ble_eq_true rfl) ?_
  intro p e s m below meth c A ls H hAt hP hD hS hl
  obtain ⟨hx, hb, hr, hml, hown, hts, hN, hK, hlk, hnm, hA⟩ := hAt
  have hl : lv_has ls 5 [(0, .ref ho), (1, .ref nw), (2, .int p1), (3, .int p2)] := hl
  have hown : s.vm.findClass RX5 = some m.cls := hown
  refine lv_aload_n hx hb dX5_isBarred_0 rfl (lv_at hl 1 rfl) ?_
  refine lv_iload_n hx hb dX5_isBarred_1 rfl (lv_at hl 2 rfl) ?_
  refine kt_pi (wc := [(nw, .inr (8, [.ref sf, .ref sh, .int tu])), (sh, .inl (cI, 81, .inl fh))]) [2, 3] hP hD hS hA rfl (by decide) (fun hPc hDc => va_runV (As := [.int p1]) (rest := []) ⟨hx, hb, hml, hown, hts⟩ (c_X8_holderOf l D cI cZ cB H.size nw sf sh tu fh p1 (by first | assumption | omega | rfl | decide)) (cwV 1 hts gX5_isBarred_X8_holderOf rfl rfl rfl (by decide +kernel) ⟨Nat.le_of_ble_eq_true rfl, Nat.le_of_ble_eq_true rfl⟩) (kt_preV hN hK hPc hDc 0 (ci := 8) (q := (RX8, TX8, 3)) rfl rfl) rfl rfl hl.1 rfl (lv_room (Nat.le_of_ble_eq_true rfl)) dX5_isBarred_2 ⟨Nat.le_of_ble_eq_true rfl, Nat.le_of_ble_eq_true rfl⟩) (fun r_2 _ H locs hw_2 hP hS => ?_)
  refine lv_istore (lv' := [(4, .int r_2), (0, .ref ho), (1, .ref nw), (2, .int p1), (3, .int p2)]) hx hb dX5_isBarred_5 hl (by decide) rfl (fun ls hl => ?_)
  refine lv_aload_n hx hb dX5_isBarred_7 rfl (lv_at hl 1 rfl) ?_
  refine va_get (D := D) (ci := 5) (C := RX5) (T := TX5) (N := 3) hx hb hts iw_X5_isBarred_X5 hown hK hP 0 rfl rfl 0 (by decide) (hts (.fieldLink RX5 19 "KingTable$Ring" "rules" "LKingTable$Rules;") (List.mem_cons_of_mem _ (List.mem_append_left _ (List.mem_append_left _ (List.mem_append_left _ (List.Mem.head _)))))) (fun _ h9 => h9) rfl dX5_isBarred_8 ?_
  refine lv_iload hx hb dX5_isBarred_11 (lv_at hl 0 rfl) ?_
  refine kt_pi (wc := [(ru, .inr (6, [.ref la, .ref gr, .ref rk, .ref rs, .ref rt, .int tt, .int kg, .ref rv, .int vc]))]) [1] hP hD hS hA rfl (by decide) (fun hPc hDc => va_runV (As := [.int r_2]) (rest := []) ⟨hx, hb, hml, hown, hts⟩ (c_X6_isPiece l D cI cZ cB H.size ru la gr rk rs rt rv tt kg vc r_2 ) (cwV 1 hts gX5_isBarred_X6_isPiece rfl rfl rfl (by decide +kernel) ⟨Nat.le_of_ble_eq_true rfl, Nat.le_of_ble_eq_true rfl⟩) (kt_preV hN hK hPc hDc 0 (ci := 6) (q := (RX6, TX6, 9)) rfl rfl) rfl rfl hl.1 rfl (lv_room (Nat.le_of_ble_eq_true rfl)) dX5_isBarred_13 ⟨Nat.le_of_ble_eq_true rfl, Nat.le_of_ble_eq_true rfl⟩) (fun r_13 _ H locs hw_13 hP hS => ?_)
  refine lv_if_eq (tgt := 43) hx hb dX5_isBarred_16 (by decide) (fun c_16 => ?_) (fun c_16 => ?_)
  · have d_16 := c_16
    simp only [kt_lt, kt_le, kt_eq, kt_c0, kt_c1, kt_c2, kt_c3, kt_c4, kt_c8, kt_c9, kt_cm1, kt_c81, kt_c40, kt_c7, kt_c5, kt_c6, kt_c512, kt_c10, kt_c10000] at d_16
    refine lv_iconst (v := 0) hx hb dX5_isBarred_43 (by decide) ?_
    exact kt_rz () hx hb hr hlk hS dX5_isBarred_44 hP hD (by show 0 ≤ (0 : Int32).toInt ∧ (0 : Int32).toInt ≤ 1; decide) rfl
  · have d_16 := c_16
    simp only [kt_lt, kt_le, kt_eq, kt_c0, kt_c1, kt_c2, kt_c3, kt_c4, kt_c8, kt_c9, kt_cm1, kt_c81, kt_c40, kt_c7, kt_c5, kt_c6, kt_c512, kt_c10, kt_c10000] at d_16
    have hq1 := hw_13.t c_16
    refine lv_iload hx hb dX5_isBarred_19 (lv_at hl 0 rfl) ?_
    refine lv_iload_n hx hb dX5_isBarred_21 rfl (lv_at hl 4 rfl) ?_
    refine lv_icmp_eq (tgt := 43) hx hb dX5_isBarred_22 (by decide) (fun c_22 => ?_) (fun c_22 => ?_)
    · have d_22 := c_22
      simp only [kt_lt, kt_le, kt_eq, kt_c0, kt_c1, kt_c2, kt_c3, kt_c4, kt_c8, kt_c9, kt_cm1, kt_c81, kt_c40, kt_c7, kt_c5, kt_c6, kt_c512, kt_c10, kt_c10000] at d_22
      refine lv_iconst (v := 0) hx hb dX5_isBarred_43 (by decide) ?_
      exact kt_rz () hx hb hr hlk hS dX5_isBarred_44 hP hD (by show 0 ≤ (0 : Int32).toInt ∧ (0 : Int32).toInt ≤ 1; decide) rfl
    · have d_22 := c_22
      simp only [kt_lt, kt_le, kt_eq, kt_c0, kt_c1, kt_c2, kt_c3, kt_c4, kt_c8, kt_c9, kt_cm1, kt_c81, kt_c40, kt_c7, kt_c5, kt_c6, kt_c512, kt_c10, kt_c10000] at d_22
      refine lv_aload_n hx hb dX5_isBarred_25 rfl (lv_at hl 1 rfl) ?_
      refine va_get (D := D) (ci := 5) (C := RX5) (T := TX5) (N := 3) hx hb hts iw_X5_isBarred_X5 hown hK hP 0 rfl rfl 0 (by decide) (hts (.fieldLink RX5 19 "KingTable$Ring" "rules" "LKingTable$Rules;") (List.mem_cons_of_mem _ (List.mem_append_left _ (List.mem_append_left _ (List.mem_append_left _ (List.Mem.head _)))))) (fun _ h9 => h9) rfl dX5_isBarred_26 ?_
      refine va_getN (D := D) (ci := 6) (C := RX6) (T := TX6) (N := 9) hx hb hts iw_X5_isBarred_X6 hown hK hP 1 rfl rfl 3 (by decide) (va_Nw.use (w := .fieldLinkNest RX5 59 "KingTable$Rules" "sides" "[I" "KingTable") rfl (hN _ (by decide +kernel))) (fun _ h9 => h9) rfl dX5_isBarred_29 ?_
      refine lv_iload hx hb dX5_isBarred_32 (lv_at hl 0 rfl) ?_
      have hi_1 : vp_in r_2 40 := by exact kt_in (by omega) (by omega)
      refine va_iald hx hb hK hP 4 0 rfl rfl hi_1 dX5_isBarred_34 ?_
      refine lv_topi (fun a_34 ea_34 => ?_)
      have ra_34 := hrs.get hi_1
      rw [← ea_34] at ra_34
      refine lv_iconst (v := 1) hx hb dX5_isBarred_35 (by decide) ?_
      refine lv_icmp_ne (tgt := 43) hx hb dX5_isBarred_36 (by decide) (fun c_36 => ?_) (fun c_36 => ?_)
      · have d_36 := c_36
        simp only [kt_lt, kt_le, kt_eq, kt_c0, kt_c1, kt_c2, kt_c3, kt_c4, kt_c8, kt_c9, kt_cm1, kt_c81, kt_c40, kt_c7, kt_c5, kt_c6, kt_c512, kt_c10, kt_c10000] at d_36
        refine lv_iconst (v := 0) hx hb dX5_isBarred_43 (by decide) ?_
        exact kt_rz () hx hb hr hlk hS dX5_isBarred_44 hP hD (by show 0 ≤ (0 : Int32).toInt ∧ (0 : Int32).toInt ≤ 1; decide) rfl
      · have d_36 := c_36
        simp only [kt_lt, kt_le, kt_eq, kt_c0, kt_c1, kt_c2, kt_c3, kt_c4, kt_c8, kt_c9, kt_cm1, kt_c81, kt_c40, kt_c7, kt_c5, kt_c6, kt_c512, kt_c10, kt_c10000] at d_36
        refine lv_iconst (v := 1) hx hb dX5_isBarred_39 (by decide) ?_
        refine lv_goto (tgt := 44) hx hb dX5_isBarred_40 (by decide) ?_
        exact kt_rz () hx hb hr hlk hS dX5_isBarred_44 hP hD (by show 0 ≤ (1 : Int32).toInt ∧ (1 : Int32).toInt ≤ 1; decide) rfl

/-- how many of the first n fields are seen -/
def kt_sn (f : Nat → Int32) : Nat → Nat
  | 0 => 0
  | n + 1 => kt_sn f n + (if f n = 0 then 0 else 1)
theorem kt_sn_le (f : Nat → Int32) : ∀ n, kt_sn f n ≤ n
  | 0 => Nat.le_refl 0
  | n + 1 => by
    have h := kt_sn_le f n
    unfold kt_sn
    split <;> omega
theorem kt_sn_0 : ∀ n, kt_sn (fun _ => 0) n = 0
  | 0 => rfl
  | n + 1 => by
    show kt_sn (fun _ => 0) n + (if (0 : Int32) = 0 then 0 else 1) = 0
    rw [kt_sn_0 n]; rfl
theorem kt_sn_out (f : Nat → Int32) (x : Int32) {i : Nat} : ∀ {n : Nat}, n ≤ i → kt_sn (upd f i x) n = kt_sn f n
  | 0, _ => rfl
  | n + 1, h => by
    show kt_sn (upd f i x) n + (if upd f i x n = 0 then 0 else 1) = kt_sn f n + (if f n = 0 then 0 else 1)
    rw [kt_sn_out f x (by omega), pk_un (by omega)]
/-- an unseen field is seen: one more, and there was room -/
theorem kt_sn_upd (f : Nat → Int32) {i : Nat} (hi : f i = 0) : ∀ {n : Nat}, i < n → kt_sn (upd f i 1) n = kt_sn f n + 1 ∧ kt_sn f n < n
  | 0, h => absurd h (Nat.not_lt_zero _)
  | n + 1, h => by
    show kt_sn (upd f i 1) n + (if upd f i 1 n = 0 then 0 else 1) = kt_sn f n + (if f n = 0 then 0 else 1) + 1 ∧ kt_sn f n + (if f n = 0 then 0 else 1) < n + 1
    by_cases e : i = n
    · subst e
      rw [kt_sn_out f 1 (Nat.le_refl i), pk_us, hi]
      have := kt_sn_le f i
      exact ⟨rfl, by show kt_sn f i + 0 < i + 1; omega⟩
    · obtain ⟨h1, h2⟩ := kt_sn_upd f hi (n := n) (by omega)
      rw [h1, pk_un (Ne.symm e)]
      have := kt_sn_le f n
      split <;> omega

theorem iw_X5_holds_X5 : ∀ w ∈ wsX50, w ∈ wsX5_holds := fun _ h => kt_wp_X5_holds__X50 h
theorem iw_X5_holds_X6 : ∀ w ∈ wsX60, w ∈ wsX5_holds := fun _ h => kt_wp_X5_holds__X60 h
set_option maxHeartbeats 4000000 in
set_option maxRecDepth 100000 in
theorem c_X5_holds (l : Launch) (D : va_G) (cI cZ cB : ClassId) (sz : Nat) (ho : Nat) (ora : Nat) (osa : Nat) (fr : Nat → Int32) (fz : Nat → Int32) (ru : Nat) (la : Nat) (gr : Nat) (rk : Nat) (rs : Nat) (rt : Nat) (rv : Nat) (tt : Int32) (kg : Int32) (vc : Int32) (gt : Nat) (gg : Nat) (gn : Nat) (gs : Int32) (gm : Int32) (nb : Nat → Int32) (gl : Nat → Int32) (nw : Nat) (sf : Nat) (sh : Nat) (tu : Int32) (ff : Nat → Int32) (fh : Nat → Int32) (fs : Nat → Int32) (p2 : Int32) (hgs : 0 ≤ gs.toInt ∧ gs.toInt ≤ 81) (hnb : kt_r nb 324 (-1) 80) (hgg : kt_r gl 81 0 1) (hff : kt_r ff 40 (-1) 80) (hfh : kt_r fh 81 (-1) 39) (hrs : kt_r fs 40 0 1) (htt : 0 ≤ tt.toInt ∧ tt.toInt ≤ 40) (hfr : kt_r fr 81 (-1) 80) : kt_Mi l yX5_holds wsX5_holds { frames := 2, cells := 0, slots := 0, locals := 45 } D (kt_ty cI cZ cB) [.ref ho, .ref nw, .int p2] sz [(ho, .inr (5, [.ref ru, .ref ora, .ref osa])), (ora, .inl (cI, 81, .inl fr)), (osa, .inl (cZ, 81, .inl fz)), (ru, .inr (6, [.ref la, .ref gr, .ref rk, .ref rs, .ref rt, .int tt, .int kg, .ref rv, .int vc])), (gr, .inr (0, [.ref gt, .ref gg, .ref gn, .int gs, .int gm])), (gn, .inl (cI, 324, .inl nb)), (gg, .inl (cZ, 81, .inl gl)), (nw, .inr (8, [.ref sf, .ref sh, .int tu])), (sf, .inl (cI, 40, .inl ff)), (sh, .inl (cI, 81, .inl fh)), (rs, .inl (cI, 40, .inl fs))] (fun (r : Int32) (u : (Nat → Int32) × (Nat → Int32)) => (0 ≤ r.toInt ∧ r.toInt ≤ 1) ∧ kt_r u.1 81 (-1) 80) (fun (u : (Nat → Int32) × (Nat → Int32)) => [(ho, .inr (5, [.ref ru, .ref ora, .ref osa])), (ora, .inl (cI, 81, .inl u.1)), (osa, .inl (cZ, 81, .inl u.2)), (ru, .inr (6, [.ref la, .ref gr, .ref rk, .ref rs, .ref rt, .int tt, .int kg, .ref rv, .int vc])), (gr, .inr (0, [.ref gt, .ref gg, .ref gn, .int gs, .int gm])), (gn, .inl (cI, 324, .inl nb)), (gg, .inl (cZ, 81, .inl gl)), (nw, .inr (8, [.ref sf, .ref sh, .int tu])), (sf, .inl (cI, 40, .inl ff)), (sh, .inl (cI, 81, .inl fh)), (rs, .inl (cI, 40, .inl fs))]) 0 0 := by
  refine kt_Mi.of (cc := cX5_holds) (maxL := 8) (ret := some .boolean) (by decide) rfl (Nat.le_of_ble_eq_true rfl) ?_
  intro p e s m below meth c A ls H hAt hP hD hS hl
  obtain ⟨hx, hb, hr, hml, hown, hts, hN, hK, hlk, hnm, hA⟩ := hAt
  have hl : lv_has ls 8 [(0, .ref ho), (1, .ref nw), (2, .int p2)] := hl
  have hown : s.vm.findClass RX5 = some m.cls := hown
  refine lv_aload_n hx hb dX5_holds_0 rfl (lv_at hl 1 rfl) ?_
  refine lv_aload_n hx hb dX5_holds_1 rfl (lv_at hl 0 rfl) ?_
  refine va_get (D := D) (ci := 5) (C := RX5) (T := TX5) (N := 3) hx hb hts iw_X5_holds_X5 hown hK hP 0 rfl rfl 0 (by decide) (hts (.fieldLink RX5 19 "KingTable$Ring" "rules" "LKingTable$Rules;") (kt_wp_X5_holds__X5_holds_r1 kt_wm0)) (fun _ h9 => h9) rfl dX5_holds_2 ?_
  refine va_getN (D := D) (ci := 6) (C := RX6) (T := TX6) (N := 9) hx hb hts iw_X5_holds_X6 hown hK hP 3 rfl rfl 6 (by decide) (va_Nw.use (w := .fieldLinkNest RX5 23 "KingTable$Rules" "king" "I" "KingTable") rfl (hN _ (by decide +kernel))) (fun _ h9 => h9) rfl dX5_holds_5 ?_
  refine kt_pi (wc := [(nw, .inr (8, [.ref sf, .ref sh, .int tu])), (sf, .inl (cI, 40, .inl ff))]) [7, 8] hP hD hS hA rfl (by decide) (fun hPc hDc => va_runV (As := [.int kg]) (rest := []) ⟨hx, hb, hml, hown, hts⟩ (c_X8_fieldOf l D cI cZ cB H.size nw sf sh tu ff kg (by first | assumption | omega | rfl | decide)) (cwV 1 hts gX5_holds_X8_fieldOf rfl rfl rfl (by decide +kernel) ⟨Nat.le_of_ble_eq_true rfl, Nat.le_of_ble_eq_true rfl⟩) (kt_preV hN hK hPc hDc 0 (ci := 8) (q := (RX8, TX8, 3)) rfl rfl) rfl rfl hl.1 rfl (lv_room (Nat.le_of_ble_eq_true rfl)) dX5_holds_8 ⟨Nat.le_of_ble_eq_true rfl, Nat.le_of_ble_eq_true rfl⟩) (fun r_8 _ H locs hw_8 hP hS => ?_)
  refine lv_istore_n (lv' := [(3, .int r_8), (0, .ref ho), (1, .ref nw), (2, .int p2)]) hx hb dX5_holds_11 rfl hl (by decide) rfl (fun ls hl => ?_)
  refine lv_iload_n hx hb dX5_holds_12 rfl (lv_at hl 0 rfl) ?_
  refine lv_if_lt (tgt := 33) hx hb dX5_holds_13 (by decide) (fun c_13 => ?_) (fun c_13 => ?_)
  · have d_13 := c_13
    simp only [kt_lt, kt_le, kt_eq, kt_c0, kt_c1, kt_c2, kt_c3, kt_c4, kt_c8, kt_c9, kt_cm1, kt_c81, kt_c40, kt_c7, kt_c5, kt_c6, kt_c512, kt_c10, kt_c10000] at d_13
    refine lv_iconst (v := 0) hx hb dX5_holds_33 (by decide) ?_
    exact kt_rz (fr, fz) hx hb hr hlk hS dX5_holds_34 hP hD (by show (0 ≤ (0 : Int32).toInt ∧ (0 : Int32).toInt ≤ 1) ∧ kt_r fr 81 (-1) 80; exact ⟨by decide, hfr⟩) rfl
  · have d_13 := c_13
    simp only [kt_lt, kt_le, kt_eq, kt_c0, kt_c1, kt_c2, kt_c3, kt_c4, kt_c8, kt_c9, kt_cm1, kt_c81, kt_c40, kt_c7, kt_c5, kt_c6, kt_c512, kt_c10, kt_c10000] at d_13
    refine lv_iload_n hx hb dX5_holds_16 rfl (lv_at hl 0 rfl) ?_
    refine lv_bipush (v := 81) hx hb dX5_holds_17 (by decide) ?_
    refine lv_icmp_ge (tgt := 33) hx hb dX5_holds_19 (by decide) (fun c_19 => ?_) (fun c_19 => ?_)
    · have d_19 := c_19
      simp only [kt_lt, kt_le, kt_eq, kt_c0, kt_c1, kt_c2, kt_c3, kt_c4, kt_c8, kt_c9, kt_cm1, kt_c81, kt_c40, kt_c7, kt_c5, kt_c6, kt_c512, kt_c10, kt_c10000] at d_19
      refine lv_iconst (v := 0) hx hb dX5_holds_33 (by decide) ?_
      exact kt_rz (fr, fz) hx hb hr hlk hS dX5_holds_34 hP hD (by show (0 ≤ (0 : Int32).toInt ∧ (0 : Int32).toInt ≤ 1) ∧ kt_r fr 81 (-1) 80; exact ⟨by decide, hfr⟩) rfl
    · have d_19 := c_19
      simp only [kt_lt, kt_le, kt_eq, kt_c0, kt_c1, kt_c2, kt_c3, kt_c4, kt_c8, kt_c9, kt_cm1, kt_c81, kt_c40, kt_c7, kt_c5, kt_c6, kt_c512, kt_c10, kt_c10000] at d_19
      refine lv_aload_n hx hb dX5_holds_22 rfl (lv_at hl 1 rfl) ?_
      refine va_get (D := D) (ci := 5) (C := RX5) (T := TX5) (N := 3) hx hb hts iw_X5_holds_X5 hown hK hP 0 rfl rfl 0 (by decide) (hts (.fieldLink RX5 19 "KingTable$Ring" "rules" "LKingTable$Rules;") (kt_wp_X5_holds__X5_holds_r1 kt_wm0)) (fun _ h9 => h9) rfl dX5_holds_23 ?_
      refine lv_iload_n hx hb dX5_holds_26 rfl (lv_at hl 0 rfl) ?_
      refine kt_pi (wc := [(ru, .inr (6, [.ref la, .ref gr, .ref rk, .ref rs, .ref rt, .int tt, .int kg, .ref rv, .int vc])), (gr, .inr (0, [.ref gt, .ref gg, .ref gn, .int gs, .int gm])), (gg, .inl (cZ, 81, .inl gl))]) [3, 4, 6] hP hD hS hA rfl (by decide) (fun hPc hDc => va_runV (As := [.int r_8]) (rest := []) ⟨hx, hb, hml, hown, hts⟩ (c_X6_isGoal l D cI cZ cB H.size ru la gr rk rs rt rv tt kg vc gt gg gn gs gm gl r_8 (by first | assumption | omega | rfl | decide) (by first | assumption | omega | rfl | decide)) (cwV 1 hts gX5_holds_X6_isGoal rfl rfl rfl (by decide +kernel) ⟨Nat.le_of_ble_eq_true rfl, Nat.le_of_ble_eq_true rfl⟩) (kt_preV hN hK hPc hDc 0 (ci := 6) (q := (RX6, TX6, 9)) rfl rfl) rfl rfl hl.1 rfl (lv_room (Nat.le_of_ble_eq_true rfl)) dX5_holds_27 ⟨Nat.le_of_ble_eq_true rfl, Nat.le_of_ble_eq_true rfl⟩) (fun r_27 _ H locs hw_27 hP hS => ?_)
      refine lv_if_eq (tgt := 35) hx hb dX5_holds_30 (by decide) (fun c_30 => ?_) (fun c_30 => ?_)
      · have d_30 := c_30
        simp only [kt_lt, kt_le, kt_eq, kt_c0, kt_c1, kt_c2, kt_c3, kt_c4, kt_c8, kt_c9, kt_cm1, kt_c81, kt_c40, kt_c7, kt_c5, kt_c6, kt_c512, kt_c10, kt_c10000] at d_30
        refine lv_iconst (v := 0) hx hb dX5_holds_35 (by decide) ?_
        refine lv_istore (lv' := [(4, .int 0), (3, .int r_8), (0, .ref ho), (1, .ref nw), (2, .int p2)]) hx hb dX5_holds_36 hl (by decide) rfl (fun ls hl => ?_)
        refine kt_loop (σ := Nat × (Nat → Int32)) 38 8 (fun u => [(ho, .inr (5, [.ref ru, .ref ora, .ref osa])), (ora, .inl (cI, 81, .inl fr)), (osa, .inl (cZ, 81, .inl u.2)), (ru, .inr (6, [.ref la, .ref gr, .ref rk, .ref rs, .ref rt, .int tt, .int kg, .ref rv, .int vc])), (gr, .inr (0, [.ref gt, .ref gg, .ref gn, .int gs, .int gm])), (gn, .inl (cI, 324, .inl nb)), (gg, .inl (cZ, 81, .inl gl)), (nw, .inr (8, [.ref sf, .ref sh, .int tu])), (sf, .inl (cI, 40, .inl ff)), (sh, .inl (cI, 81, .inl fh)), (rs, .inl (cI, 40, .inl fs))]) (fun u => [(4, .int (nI u.1)), (3, .int r_8), (0, .ref ho), (1, .ref nw), (2, .int p2)]) (fun n u => (u.1 ≤ 81 ∧ 81 < u.1 + n) ∧ ∀ j, j < u.1 → u.2 j = 0) (fun u h => by omega) (fun n_38 ih_38 u hI H locs hP hD hS ls hl => ?_) (82) (0, fz) (by show (0 ≤ 81 ∧ 81 < 0 + 82) ∧ ∀ j, j < 0 → fz j = 0; exact ⟨by decide, fun j h => absurd h (Nat.not_lt_zero j)⟩) hP hD hS (lv_sub hl [0, 1, 2, 3, 4] rfl)
        obtain ⟨k, z⟩ := u
        have hP : va_P D vwCl [(ho, .inr (5, [.ref ru, .ref ora, .ref osa])), (ora, .inl (cI, 81, .inl fr)), (osa, .inl (cZ, 81, .inl z)), (ru, .inr (6, [.ref la, .ref gr, .ref rk, .ref rs, .ref rt, .int tt, .int kg, .ref rv, .int vc])), (gr, .inr (0, [.ref gt, .ref gg, .ref gn, .int gs, .int gm])), (gn, .inl (cI, 324, .inl nb)), (gg, .inl (cZ, 81, .inl gl)), (nw, .inr (8, [.ref sf, .ref sh, .int tu])), (sf, .inl (cI, 40, .inl ff)), (sh, .inl (cI, 81, .inl fh)), (rs, .inl (cI, 40, .inl fs))] H := hP
        have hD : va_D A [(ho, .inr (5, [.ref ru, .ref ora, .ref osa])), (ora, .inl (cI, 81, .inl fr)), (osa, .inl (cZ, 81, .inl z)), (ru, .inr (6, [.ref la, .ref gr, .ref rk, .ref rs, .ref rt, .int tt, .int kg, .ref rv, .int vc])), (gr, .inr (0, [.ref gt, .ref gg, .ref gn, .int gs, .int gm])), (gn, .inl (cI, 324, .inl nb)), (gg, .inl (cZ, 81, .inl gl)), (nw, .inr (8, [.ref sf, .ref sh, .int tu])), (sf, .inl (cI, 40, .inl ff)), (sh, .inl (cI, 81, .inl fh)), (rs, .inl (cI, 40, .inl fs))] := hD
        have hl : lv_has ls 8 [(4, .int (nI k)), (3, .int r_8), (0, .ref ho), (1, .ref nw), (2, .int p2)] := hl
        have hI : (k ≤ 81 ∧ 81 < k + (n_38 + 1)) ∧ ∀ j, j < k → z j = 0 := hI
        obtain ⟨hkb, hz⟩ := hI
        have hk0 := kt_nI (n := k) (by omega)
        refine lv_iload hx hb dX5_holds_38 (lv_at hl 0 rfl) ?_
        refine lv_bipush (v := 81) hx hb dX5_holds_40 (by decide) ?_
        refine lv_icmp_ge (tgt := 59) hx hb dX5_holds_42 (by decide) (fun c_42 => ?_) (fun c_42 => ?_)
        · have d_42 := c_42
          simp only [kt_lt, kt_le, kt_eq, kt_c0, kt_c1, kt_c2, kt_c3, kt_c4, kt_c8, kt_c9, kt_cm1, kt_c81, kt_c40, kt_c7, kt_c5, kt_c6, kt_c512, kt_c10, kt_c10000] at d_42
          have hD : va_D A [(ho, .inr (5, [.ref ru, .ref ora, .ref osa])), (ora, .inl (cI, 81, .inl fr)), (osa, .inl (cZ, 81, .inl (fun _ => 0))), (ru, .inr (6, [.ref la, .ref gr, .ref rk, .ref rs, .ref rt, .int tt, .int kg, .ref rv, .int vc])), (gr, .inr (0, [.ref gt, .ref gg, .ref gn, .int gs, .int gm])), (gn, .inl (cI, 324, .inl nb)), (gg, .inl (cZ, 81, .inl gl)), (nw, .inr (8, [.ref sf, .ref sh, .int tu])), (sf, .inl (cI, 40, .inl ff)), (sh, .inl (cI, 81, .inl fh)), (rs, .inl (cI, 40, .inl fs))] := hD.set (p := 2) rfl
          have hP : va_P D vwCl [(ho, .inr (5, [.ref ru, .ref ora, .ref osa])), (ora, .inl (cI, 81, .inl fr)), (osa, .inl (cZ, 81, .inl (fun _ => 0))), (ru, .inr (6, [.ref la, .ref gr, .ref rk, .ref rs, .ref rt, .int tt, .int kg, .ref rv, .int vc])), (gr, .inr (0, [.ref gt, .ref gg, .ref gn, .int gs, .int gm])), (gn, .inl (cI, 324, .inl nb)), (gg, .inl (cZ, 81, .inl gl)), (nw, .inr (8, [.ref sf, .ref sh, .int tu])), (sf, .inl (cI, 40, .inl ff)), (sh, .inl (cI, 81, .inl fh)), (rs, .inl (cI, 40, .inl fs))] H := kt_P_arr hP 2 rfl (fun j hj => hz j (by omega))
          refine lv_aload_n hx hb dX5_holds_59 rfl (lv_at hl 2 rfl) ?_
          refine va_get (D := D) (ci := 5) (C := RX5) (T := TX5) (N := 3) hx hb hts iw_X5_holds_X5 hown hK hP 0 rfl rfl 2 (by decide) (hts (.fieldLink RX5 15 "KingTable$Ring" "seen" "[Z") (kt_wp_X5_holds__X5_holds_r1 kt_wm1)) (fun _ h9 => h9) rfl dX5_holds_60 ?_
          refine lv_iload_n hx hb dX5_holds_63 rfl (lv_at hl 1 rfl) ?_
          refine lv_iconst (v := 1) hx hb dX5_holds_64 (by decide) ?_
          have hi_1 : vp_in r_8 81 := by exact kt_in (by omega) (by omega)
          refine va_zast hx hb hK hP hD hS 2 1 rfl rfl hi_1 dX5_holds_65 (fun H locs hP hD hS => ?_)
          have hP : va_P D vwCl [(ho, .inr (5, [.ref ru, .ref ora, .ref osa])), (ora, .inl (cI, 81, .inl fr)), (osa, .inl (cZ, 81, .inl (upd (fun _ => 0) r_8.toNatClampNeg (vp_nar .boolean 1)))), (ru, .inr (6, [.ref la, .ref gr, .ref rk, .ref rs, .ref rt, .int tt, .int kg, .ref rv, .int vc])), (gr, .inr (0, [.ref gt, .ref gg, .ref gn, .int gs, .int gm])), (gn, .inl (cI, 324, .inl nb)), (gg, .inl (cZ, 81, .inl gl)), (nw, .inr (8, [.ref sf, .ref sh, .int tu])), (sf, .inl (cI, 40, .inl ff)), (sh, .inl (cI, 81, .inl fh)), (rs, .inl (cI, 40, .inl fs))] H := hP
          have hD : va_D A [(ho, .inr (5, [.ref ru, .ref ora, .ref osa])), (ora, .inl (cI, 81, .inl fr)), (osa, .inl (cZ, 81, .inl (upd (fun _ => 0) r_8.toNatClampNeg (vp_nar .boolean 1)))), (ru, .inr (6, [.ref la, .ref gr, .ref rk, .ref rs, .ref rt, .int tt, .int kg, .ref rv, .int vc])), (gr, .inr (0, [.ref gt, .ref gg, .ref gn, .int gs, .int gm])), (gn, .inl (cI, 324, .inl nb)), (gg, .inl (cZ, 81, .inl gl)), (nw, .inr (8, [.ref sf, .ref sh, .int tu])), (sf, .inl (cI, 40, .inl ff)), (sh, .inl (cI, 81, .inl fh)), (rs, .inl (cI, 40, .inl fs))] := hD
          refine lv_aload_n hx hb dX5_holds_66 rfl (lv_at hl 2 rfl) ?_
          refine va_get (D := D) (ci := 5) (C := RX5) (T := TX5) (N := 3) hx hb hts iw_X5_holds_X5 hown hK hP 0 rfl rfl 1 (by decide) (hts (.fieldLink RX5 9 "KingTable$Ring" "reached" "[I") (kt_wp_X5_holds__X5_holds_r1 kt_wm2)) (fun _ h9 => h9) rfl dX5_holds_67 ?_
          refine lv_iconst (v := 0) hx hb dX5_holds_70 (by decide) ?_
          refine lv_iload_n hx hb dX5_holds_71 rfl (lv_at hl 1 rfl) ?_
          have hi_2 : vp_in 0 81 := by unfold vp_in; decide
          refine va_iast hx hb hK hP hD hS 1 0 rfl rfl hi_2 dX5_holds_72 (fun H locs hP hD hS => ?_)
          have hfr : kt_r (upd fr (0 : Int32).toNatClampNeg r_8) 81 (-1) 80 := hfr.upd (by omega) (by omega)
          have hP : va_P D vwCl [(ho, .inr (5, [.ref ru, .ref ora, .ref osa])), (ora, .inl (cI, 81, .inl (upd fr (0 : Int32).toNatClampNeg r_8))), (osa, .inl (cZ, 81, .inl (upd (fun _ => 0) r_8.toNatClampNeg (vp_nar .boolean 1)))), (ru, .inr (6, [.ref la, .ref gr, .ref rk, .ref rs, .ref rt, .int tt, .int kg, .ref rv, .int vc])), (gr, .inr (0, [.ref gt, .ref gg, .ref gn, .int gs, .int gm])), (gn, .inl (cI, 324, .inl nb)), (gg, .inl (cZ, 81, .inl gl)), (nw, .inr (8, [.ref sf, .ref sh, .int tu])), (sf, .inl (cI, 40, .inl ff)), (sh, .inl (cI, 81, .inl fh)), (rs, .inl (cI, 40, .inl fs))] H := hP
          have hD : va_D A [(ho, .inr (5, [.ref ru, .ref ora, .ref osa])), (ora, .inl (cI, 81, .inl (upd fr (0 : Int32).toNatClampNeg r_8))), (osa, .inl (cZ, 81, .inl (upd (fun _ => 0) r_8.toNatClampNeg (vp_nar .boolean 1)))), (ru, .inr (6, [.ref la, .ref gr, .ref rk, .ref rs, .ref rt, .int tt, .int kg, .ref rv, .int vc])), (gr, .inr (0, [.ref gt, .ref gg, .ref gn, .int gs, .int gm])), (gn, .inl (cI, 324, .inl nb)), (gg, .inl (cZ, 81, .inl gl)), (nw, .inr (8, [.ref sf, .ref sh, .int tu])), (sf, .inl (cI, 40, .inl ff)), (sh, .inl (cI, 81, .inl fh)), (rs, .inl (cI, 40, .inl fs))] := hD
          refine lv_iconst (v := 1) hx hb dX5_holds_73 (by decide) ?_
          refine lv_istore (lv' := [(4, .int 1), (3, .int r_8), (0, .ref ho), (1, .ref nw), (2, .int p2)]) hx hb dX5_holds_74 hl (by decide) rfl (fun ls hl => ?_)
          have hsn : kt_sn (upd (fun _ => 0) r_8.toNatClampNeg (vp_nar .boolean 1)) 81 = 1 := by
            show kt_sn (upd (fun _ => 0) r_8.toNatClampNeg 1) 81 = 1
            rw [(kt_sn_upd _ rfl (by show r_8.toInt.toNat < 81; omega)).1, kt_sn_0]
          refine lv_iconst (v := 0) hx hb dX5_holds_76 (by decide) ?_
          refine lv_istore (lv' := [(5, .int 0), (4, .int 1), (3, .int r_8), (0, .ref ho), (1, .ref nw), (2, .int p2)]) hx hb dX5_holds_77 hl (by decide) rfl (fun ls hl => ?_)
          refine kt_loop (σ := Int32 × Int32 × (Nat → Int32) × (Nat → Int32)) 79 8 (fun u => [(ho, .inr (5, [.ref ru, .ref ora, .ref osa])), (ora, .inl (cI, 81, .inl u.2.2.1)), (osa, .inl (cZ, 81, .inl u.2.2.2)), (ru, .inr (6, [.ref la, .ref gr, .ref rk, .ref rs, .ref rt, .int tt, .int kg, .ref rv, .int vc])), (gr, .inr (0, [.ref gt, .ref gg, .ref gn, .int gs, .int gm])), (gn, .inl (cI, 324, .inl nb)), (gg, .inl (cZ, 81, .inl gl)), (nw, .inr (8, [.ref sf, .ref sh, .int tu])), (sf, .inl (cI, 40, .inl ff)), (sh, .inl (cI, 81, .inl fh)), (rs, .inl (cI, 40, .inl fs))]) (fun u => [(5, .int u.1), (4, .int u.2.1), (3, .int r_8), (0, .ref ho), (1, .ref nw), (2, .int p2)]) (fun n u => (0 ≤ u.1.toInt ∧ u.1.toInt ≤ 81 ∧ 81 < u.1.toInt + n) ∧ (0 ≤ u.2.1.toInt ∧ u.2.1.toInt = (kt_sn u.2.2.2 81 : Int)) ∧ kt_r u.2.2.1 81 (-1) 80) (fun u h => by omega) (fun n_79 ih_79 u hI H locs hP hD hS ls hl => ?_) (82) ((0 : Int32), (1 : Int32), (upd fr (0 : Int32).toNatClampNeg r_8), (upd (fun _ => 0) r_8.toNatClampNeg (vp_nar .boolean 1))) (by show (0 ≤ (0 : Int32).toInt ∧ (0 : Int32).toInt ≤ 81 ∧ 81 < (0 : Int32).toInt + 82) ∧ (0 ≤ (1 : Int32).toInt ∧ (1 : Int32).toInt = (kt_sn (upd (fun _ => 0) r_8.toNatClampNeg (vp_nar .boolean 1)) 81 : Int)) ∧ kt_r (upd fr (0 : Int32).toNatClampNeg r_8) 81 (-1) 80; exact ⟨by decide, ⟨by decide, by rw [hsn]; decide⟩, hfr⟩) hP hD hS (lv_sub hl [0, 1, 2, 3, 4, 5] rfl)
          obtain ⟨hd, tl, g1, g2⟩ := u
          have hP : va_P D vwCl [(ho, .inr (5, [.ref ru, .ref ora, .ref osa])), (ora, .inl (cI, 81, .inl g1)), (osa, .inl (cZ, 81, .inl g2)), (ru, .inr (6, [.ref la, .ref gr, .ref rk, .ref rs, .ref rt, .int tt, .int kg, .ref rv, .int vc])), (gr, .inr (0, [.ref gt, .ref gg, .ref gn, .int gs, .int gm])), (gn, .inl (cI, 324, .inl nb)), (gg, .inl (cZ, 81, .inl gl)), (nw, .inr (8, [.ref sf, .ref sh, .int tu])), (sf, .inl (cI, 40, .inl ff)), (sh, .inl (cI, 81, .inl fh)), (rs, .inl (cI, 40, .inl fs))] H := hP
          have hD : va_D A [(ho, .inr (5, [.ref ru, .ref ora, .ref osa])), (ora, .inl (cI, 81, .inl g1)), (osa, .inl (cZ, 81, .inl g2)), (ru, .inr (6, [.ref la, .ref gr, .ref rk, .ref rs, .ref rt, .int tt, .int kg, .ref rv, .int vc])), (gr, .inr (0, [.ref gt, .ref gg, .ref gn, .int gs, .int gm])), (gn, .inl (cI, 324, .inl nb)), (gg, .inl (cZ, 81, .inl gl)), (nw, .inr (8, [.ref sf, .ref sh, .int tu])), (sf, .inl (cI, 40, .inl ff)), (sh, .inl (cI, 81, .inl fh)), (rs, .inl (cI, 40, .inl fs))] := hD
          have hl : lv_has ls 8 [(5, .int hd), (4, .int tl), (3, .int r_8), (0, .ref ho), (1, .ref nw), (2, .int p2)] := hl
          have hI : (0 ≤ hd.toInt ∧ hd.toInt ≤ 81 ∧ 81 < hd.toInt + (n_79 + 1)) ∧ (0 ≤ tl.toInt ∧ tl.toInt = (kt_sn g2 81 : Int)) ∧ kt_r g1 81 (-1) 80 := hI
          obtain ⟨hhb, htl, hfr⟩ := hI
          refine lv_iload hx hb dX5_holds_79 (lv_at hl 0 rfl) ?_
          refine lv_iload hx hb dX5_holds_81 (lv_at hl 1 rfl) ?_
          refine lv_icmp_ge (tgt := 199) hx hb dX5_holds_83 (by decide) (fun c_83 => ?_) (fun c_83 => ?_)
          · have d_83 := c_83
            simp only [kt_lt, kt_le, kt_eq, kt_c0, kt_c1, kt_c2, kt_c3, kt_c4, kt_c8, kt_c9, kt_cm1, kt_c81, kt_c40, kt_c7, kt_c5, kt_c6, kt_c512, kt_c10, kt_c10000] at d_83
            refine lv_iconst (v := 1) hx hb dX5_holds_199 (by decide) ?_
            exact kt_rz (g1, g2) hx hb hr hlk hS dX5_holds_200 hP hD (by show (0 ≤ (1 : Int32).toInt ∧ (1 : Int32).toInt ≤ 1) ∧ kt_r g1 81 (-1) 80; exact ⟨by decide, hfr⟩) rfl
          · have d_83 := c_83
            simp only [kt_lt, kt_le, kt_eq, kt_c0, kt_c1, kt_c2, kt_c3, kt_c4, kt_c8, kt_c9, kt_cm1, kt_c81, kt_c40, kt_c7, kt_c5, kt_c6, kt_c512, kt_c10, kt_c10000] at d_83
            refine lv_iload hx hb dX5_holds_86 (lv_at hl 0 rfl) ?_
            refine lv_bipush (v := 81) hx hb dX5_holds_88 (by decide) ?_
            refine lv_icmp_ge (tgt := 199) hx hb dX5_holds_90 (by decide) (fun c_90 => ?_) (fun c_90 => ?_)
            · have d_90 := c_90
              simp only [kt_lt, kt_le, kt_eq, kt_c0, kt_c1, kt_c2, kt_c3, kt_c4, kt_c8, kt_c9, kt_cm1, kt_c81, kt_c40, kt_c7, kt_c5, kt_c6, kt_c512, kt_c10, kt_c10000] at d_90
              refine lv_iconst (v := 1) hx hb dX5_holds_199 (by decide) ?_
              exact kt_rz (g1, g2) hx hb hr hlk hS dX5_holds_200 hP hD (by show (0 ≤ (1 : Int32).toInt ∧ (1 : Int32).toInt ≤ 1) ∧ kt_r g1 81 (-1) 80; exact ⟨by decide, hfr⟩) rfl
            · have d_90 := c_90
              simp only [kt_lt, kt_le, kt_eq, kt_c0, kt_c1, kt_c2, kt_c3, kt_c4, kt_c8, kt_c9, kt_cm1, kt_c81, kt_c40, kt_c7, kt_c5, kt_c6, kt_c512, kt_c10, kt_c10000] at d_90
              refine lv_iconst (v := 0) hx hb dX5_holds_93 (by decide) ?_
              refine lv_istore (lv' := [(6, .int 0), (5, .int hd), (4, .int tl), (3, .int r_8), (0, .ref ho), (1, .ref nw), (2, .int p2)]) hx hb dX5_holds_94 hl (by decide) rfl (fun ls hl => ?_)
              refine kt_loop (σ := Nat × Int32 × (Nat → Int32) × (Nat → Int32)) 96 8 (fun u => [(ho, .inr (5, [.ref ru, .ref ora, .ref osa])), (ora, .inl (cI, 81, .inl u.2.2.1)), (osa, .inl (cZ, 81, .inl u.2.2.2)), (ru, .inr (6, [.ref la, .ref gr, .ref rk, .ref rs, .ref rt, .int tt, .int kg, .ref rv, .int vc])), (gr, .inr (0, [.ref gt, .ref gg, .ref gn, .int gs, .int gm])), (gn, .inl (cI, 324, .inl nb)), (gg, .inl (cZ, 81, .inl gl)), (nw, .inr (8, [.ref sf, .ref sh, .int tu])), (sf, .inl (cI, 40, .inl ff)), (sh, .inl (cI, 81, .inl fh)), (rs, .inl (cI, 40, .inl fs))]) (fun u => [(6, .int (nI u.1)), (5, .int hd), (4, .int u.2.1), (3, .int r_8), (0, .ref ho), (1, .ref nw), (2, .int p2)]) (fun n u => (u.1 ≤ 4 ∧ 4 < u.1 + n) ∧ (0 ≤ u.2.1.toInt ∧ u.2.1.toInt = (kt_sn u.2.2.2 81 : Int)) ∧ kt_r u.2.2.1 81 (-1) 80) (fun u h => by omega) (fun n_96 ih_96 u hI H locs hP hD hS ls hl => ?_) (5) (0, tl, g1, g2) (by show (0 ≤ 4 ∧ 4 < 0 + 5) ∧ (0 ≤ tl.toInt ∧ tl.toInt = (kt_sn g2 81 : Int)) ∧ kt_r g1 81 (-1) 80; exact ⟨by decide, htl, hfr⟩) hP hD hS (lv_sub hl [0, 1, 2, 3, 4, 5, 6] rfl)
              obtain ⟨w, tm, i1, i2⟩ := u
              have hP : va_P D vwCl [(ho, .inr (5, [.ref ru, .ref ora, .ref osa])), (ora, .inl (cI, 81, .inl i1)), (osa, .inl (cZ, 81, .inl i2)), (ru, .inr (6, [.ref la, .ref gr, .ref rk, .ref rs, .ref rt, .int tt, .int kg, .ref rv, .int vc])), (gr, .inr (0, [.ref gt, .ref gg, .ref gn, .int gs, .int gm])), (gn, .inl (cI, 324, .inl nb)), (gg, .inl (cZ, 81, .inl gl)), (nw, .inr (8, [.ref sf, .ref sh, .int tu])), (sf, .inl (cI, 40, .inl ff)), (sh, .inl (cI, 81, .inl fh)), (rs, .inl (cI, 40, .inl fs))] H := hP
              have hD : va_D A [(ho, .inr (5, [.ref ru, .ref ora, .ref osa])), (ora, .inl (cI, 81, .inl i1)), (osa, .inl (cZ, 81, .inl i2)), (ru, .inr (6, [.ref la, .ref gr, .ref rk, .ref rs, .ref rt, .int tt, .int kg, .ref rv, .int vc])), (gr, .inr (0, [.ref gt, .ref gg, .ref gn, .int gs, .int gm])), (gn, .inl (cI, 324, .inl nb)), (gg, .inl (cZ, 81, .inl gl)), (nw, .inr (8, [.ref sf, .ref sh, .int tu])), (sf, .inl (cI, 40, .inl ff)), (sh, .inl (cI, 81, .inl fh)), (rs, .inl (cI, 40, .inl fs))] := hD
              have hl : lv_has ls 8 [(6, .int (nI w)), (5, .int hd), (4, .int tm), (3, .int r_8), (0, .ref ho), (1, .ref nw), (2, .int p2)] := hl
              have hI : (w ≤ 4 ∧ 4 < w + (n_96 + 1)) ∧ (0 ≤ tm.toInt ∧ tm.toInt = (kt_sn i2 81 : Int)) ∧ kt_r i1 81 (-1) 80 := hI
              obtain ⟨hwb, htl, hfr⟩ := hI
              have hw0 := kt_nI (n := w) (by omega)
              refine lv_iload hx hb dX5_holds_96 (lv_at hl 0 rfl) ?_
              refine lv_iconst (v := 4) hx hb dX5_holds_98 (by decide) ?_
              refine lv_icmp_ge (tgt := 193) hx hb dX5_holds_99 (by decide) (fun c_99 => ?_) (fun c_99 => ?_)
              · have d_99 := c_99
                simp only [kt_lt, kt_le, kt_eq, kt_c0, kt_c1, kt_c2, kt_c3, kt_c4, kt_c8, kt_c9, kt_cm1, kt_c81, kt_c40, kt_c7, kt_c5, kt_c6, kt_c512, kt_c10, kt_c10000] at d_99
                obtain ⟨t_193, et_193⟩ : ∃ y : Int32, y = hd + 1 := ⟨_, rfl⟩
                obtain ⟨k_193, hk_193, hm_193, hM_193⟩ := kt_addk et_193
                try simp only [kt_c0, kt_c1, kt_c2, kt_c3, kt_c4, kt_c8, kt_c9, kt_cm1, kt_c81, kt_c40, kt_c7, kt_c5, kt_c6, kt_c512, kt_c10, kt_c10000] at hk_193
                refine lv_iinc (v := t_193) (lv' := [(5, .int t_193), (6, .int (nI w)), (4, .int tm), (3, .int r_8), (0, .ref ho), (1, .ref nw), (2, .int p2)]) hx hb dX5_holds_193 hl (k := 1) rfl (by rw [et_193]; rfl) (by decide) rfl (fun ls hl => ?_)
                refine lv_goto (tgt := 79) hx hb dX5_holds_196 (by decide) ?_
                exact ih_79 (t_193, tm, i1, i2) (by show (0 ≤ t_193.toInt ∧ t_193.toInt ≤ 81 ∧ 81 < t_193.toInt + n_79) ∧ (0 ≤ tm.toInt ∧ tm.toInt = (kt_sn i2 81 : Int)) ∧ kt_r i1 81 (-1) 80; exact ⟨by omega, htl, hfr⟩) H _ hP hD hS ls (lv_sub hl [0, 2, 3, 4, 5, 6] rfl)
              · have d_99 := c_99
                simp only [kt_lt, kt_le, kt_eq, kt_c0, kt_c1, kt_c2, kt_c3, kt_c4, kt_c8, kt_c9, kt_cm1, kt_c81, kt_c40, kt_c7, kt_c5, kt_c6, kt_c512, kt_c10, kt_c10000] at d_99
                refine lv_aload_n hx hb dX5_holds_102 rfl (lv_at hl 4 rfl) ?_
                refine va_get (D := D) (ci := 5) (C := RX5) (T := TX5) (N := 3) hx hb hts iw_X5_holds_X5 hown hK hP 0 rfl rfl 0 (by decide) (hts (.fieldLink RX5 19 "KingTable$Ring" "rules" "LKingTable$Rules;") (kt_wp_X5_holds__X5_holds_r1 kt_wm0)) (fun _ h9 => h9) rfl dX5_holds_103 ?_
                refine va_getN (D := D) (ci := 6) (C := RX6) (T := TX6) (N := 9) hx hb hts iw_X5_holds_X6 hown hK hP 3 rfl rfl 1 (by decide) (va_Nw.use (w := .fieldLinkNest RX5 39 "KingTable$Rules" "ground" "LKingTable$Ground;" "KingTable") rfl (hN _ (by decide +kernel))) (fun _ h9 => h9) rfl dX5_holds_106 ?_
                refine lv_aload_n hx hb dX5_holds_109 rfl (lv_at hl 4 rfl) ?_
                refine va_get (D := D) (ci := 5) (C := RX5) (T := TX5) (N := 3) hx hb hts iw_X5_holds_X5 hown hK hP 0 rfl rfl 1 (by decide) (hts (.fieldLink RX5 9 "KingTable$Ring" "reached" "[I") (kt_wp_X5_holds__X5_holds_r1 kt_wm2)) (fun _ h9 => h9) rfl dX5_holds_110 ?_
                refine lv_iload hx hb dX5_holds_113 (lv_at hl 1 rfl) ?_
                have hi_3 : vp_in hd 81 := by exact kt_in (by omega) (by omega)
                refine va_iald hx hb hK hP 1 0 rfl rfl hi_3 dX5_holds_115 ?_
                refine lv_topi (fun a_115 ea_115 => ?_)
                have ra_115 := hfr.get hi_3
                rw [← ea_115] at ra_115
                refine lv_iload hx hb dX5_holds_116 (lv_at hl 0 rfl) ?_
                refine kt_pi (wc := [(gr, .inr (0, [.ref gt, .ref gg, .ref gn, .int gs, .int gm])), (gn, .inl (cI, 324, .inl nb))]) [4, 5] hP hD hS hA rfl (by decide) (fun hPc hDc => va_runV (As := [.int a_115, .int (nI w)]) (rest := []) ⟨hx, hb, hml, hown, hts⟩ (c_X0_beside l D cI cZ cB H.size gr gt gg gn gs gm nb a_115 (nI w) (by first | assumption | omega | rfl | decide) (by first | assumption | omega | rfl | decide)) (cwV 2 hts gX5_holds_X0_beside rfl rfl rfl (by decide +kernel) ⟨Nat.le_of_ble_eq_true rfl, Nat.le_of_ble_eq_true rfl⟩) (kt_preV hN hK hPc hDc 0 (ci := 0) (q := (RX0, TX0, 5)) rfl rfl) rfl rfl hl.1 rfl (lv_room (Nat.le_of_ble_eq_true rfl)) dX5_holds_118 ⟨Nat.le_of_ble_eq_true rfl, Nat.le_of_ble_eq_true rfl⟩) (fun r_118 _ H locs hw_118 hP hS => ?_)
                refine lv_istore (lv' := [(7, .int r_118), (6, .int (nI w)), (5, .int hd), (4, .int tm), (3, .int r_8), (0, .ref ho), (1, .ref nw), (2, .int p2)]) hx hb dX5_holds_121 hl (by decide) rfl (fun ls hl => ?_)
                refine lv_iload hx hb dX5_holds_123 (lv_at hl 0 rfl) ?_
                refine lv_iconst (v := (-1)) hx hb dX5_holds_125 (by decide) ?_
                refine kt_join (σ := Int32 × (Nat → Int32) × (Nat → Int32)) 187 8 (fun u => [(ho, .inr (5, [.ref ru, .ref ora, .ref osa])), (ora, .inl (cI, 81, .inl u.2.1)), (osa, .inl (cZ, 81, .inl u.2.2)), (ru, .inr (6, [.ref la, .ref gr, .ref rk, .ref rs, .ref rt, .int tt, .int kg, .ref rv, .int vc])), (gr, .inr (0, [.ref gt, .ref gg, .ref gn, .int gs, .int gm])), (gn, .inl (cI, 324, .inl nb)), (gg, .inl (cZ, 81, .inl gl)), (nw, .inr (8, [.ref sf, .ref sh, .int tu])), (sf, .inl (cI, 40, .inl ff)), (sh, .inl (cI, 81, .inl fh)), (rs, .inl (cI, 40, .inl fs))]) (fun u => [(7, .int r_118), (6, .int (nI w)), (5, .int hd), (4, .int u.1), (3, .int r_8), (0, .ref ho), (1, .ref nw), (2, .int p2)]) (fun u => []) (fun u => (0 ≤ u.1.toInt ∧ u.1.toInt = (kt_sn u.2.2 81 : Int)) ∧ kt_r u.2.1 81 (-1) 80) (D := D) (A := A) (H0 := s.heap) (fun u hI H locs hP hD hS ls hl => ?_) (fun j_187 => ?_)
                · obtain ⟨tv, h1, h2⟩ := u
                  have hP : va_P D vwCl [(ho, .inr (5, [.ref ru, .ref ora, .ref osa])), (ora, .inl (cI, 81, .inl h1)), (osa, .inl (cZ, 81, .inl h2)), (ru, .inr (6, [.ref la, .ref gr, .ref rk, .ref rs, .ref rt, .int tt, .int kg, .ref rv, .int vc])), (gr, .inr (0, [.ref gt, .ref gg, .ref gn, .int gs, .int gm])), (gn, .inl (cI, 324, .inl nb)), (gg, .inl (cZ, 81, .inl gl)), (nw, .inr (8, [.ref sf, .ref sh, .int tu])), (sf, .inl (cI, 40, .inl ff)), (sh, .inl (cI, 81, .inl fh)), (rs, .inl (cI, 40, .inl fs))] H := hP
                  have hD : va_D A [(ho, .inr (5, [.ref ru, .ref ora, .ref osa])), (ora, .inl (cI, 81, .inl h1)), (osa, .inl (cZ, 81, .inl h2)), (ru, .inr (6, [.ref la, .ref gr, .ref rk, .ref rs, .ref rt, .int tt, .int kg, .ref rv, .int vc])), (gr, .inr (0, [.ref gt, .ref gg, .ref gn, .int gs, .int gm])), (gn, .inl (cI, 324, .inl nb)), (gg, .inl (cZ, 81, .inl gl)), (nw, .inr (8, [.ref sf, .ref sh, .int tu])), (sf, .inl (cI, 40, .inl ff)), (sh, .inl (cI, 81, .inl fh)), (rs, .inl (cI, 40, .inl fs))] := hD
                  have hl : lv_has ls 8 [(7, .int r_118), (6, .int (nI w)), (5, .int hd), (4, .int tv), (3, .int r_8), (0, .ref ho), (1, .ref nw), (2, .int p2)] := hl
                  have hI : (0 ≤ tv.toInt ∧ tv.toInt = (kt_sn h2 81 : Int)) ∧ kt_r h1 81 (-1) 80 := hI
                  obtain ⟨htl, hfr⟩ := hI
                  refine lv_iinc (v := nI (w + 1)) (lv' := [(6, .int (nI (w + 1))), (7, .int r_118), (5, .int hd), (4, .int tv), (3, .int r_8), (0, .ref ho), (1, .ref nw), (2, .int p2)]) hx hb dX5_holds_187 hl (k := 1) rfl (nI_1 _) (by decide) rfl (fun ls hl => ?_)
                  refine lv_goto (tgt := 96) hx hb dX5_holds_190 (by decide) ?_
                  exact ih_96 ((w + 1), tv, h1, h2) (by show ((w + 1) ≤ 4 ∧ 4 < (w + 1) + n_96) ∧ (0 ≤ tv.toInt ∧ tv.toInt = (kt_sn h2 81 : Int)) ∧ kt_r h1 81 (-1) 80; exact ⟨by omega, htl, hfr⟩) H _ hP hD hS ls (lv_sub hl [0, 2, 3, 4, 5, 6, 7] rfl)
                refine lv_icmp_eq (tgt := 187) hx hb dX5_holds_126 (by decide) (fun c_126 => ?_) (fun c_126 => ?_)
                · have d_126 := c_126
                  simp only [kt_lt, kt_le, kt_eq, kt_c0, kt_c1, kt_c2, kt_c3, kt_c4, kt_c8, kt_c9, kt_cm1, kt_c81, kt_c40, kt_c7, kt_c5, kt_c6, kt_c512, kt_c10, kt_c10000] at d_126
                  exact j_187 (tm, i1, i2) (by show (0 ≤ tm.toInt ∧ tm.toInt = (kt_sn i2 81 : Int)) ∧ kt_r i1 81 (-1) 80; first | exact ⟨htl, hfr⟩ | exact ⟨by rw [show kt_sn (upd i2 r_118.toNatClampNeg (vp_nar .boolean 1)) 81 = kt_sn i2 81 + 1 from hsu.1]; omega, hfr⟩) H _ hP hD hS ls (lv_sub hl [0, 1, 2, 3, 4, 5, 6, 7] rfl)
                · have d_126 := c_126
                  simp only [kt_lt, kt_le, kt_eq, kt_c0, kt_c1, kt_c2, kt_c3, kt_c4, kt_c8, kt_c9, kt_cm1, kt_c81, kt_c40, kt_c7, kt_c5, kt_c6, kt_c512, kt_c10, kt_c10000] at d_126
                  refine lv_aload_n hx hb dX5_holds_129 rfl (lv_at hl 5 rfl) ?_
                  refine va_get (D := D) (ci := 5) (C := RX5) (T := TX5) (N := 3) hx hb hts iw_X5_holds_X5 hown hK hP 0 rfl rfl 2 (by decide) (hts (.fieldLink RX5 15 "KingTable$Ring" "seen" "[Z") (kt_wp_X5_holds__X5_holds_r1 kt_wm1)) (fun _ h9 => h9) rfl dX5_holds_130 ?_
                  refine lv_iload hx hb dX5_holds_133 (lv_at hl 0 rfl) ?_
                  have hi_4 : vp_in r_118 81 := by exact kt_in (by omega) (by omega)
                  refine va_zald hx hb hK hP 2 1 rfl rfl hi_4 dX5_holds_135 ?_
                  refine lv_topi (fun a_135 ea_135 => ?_)
                  refine lv_if_ne (tgt := 187) hx hb dX5_holds_136 (by decide) (fun c_136 => ?_) (fun c_136 => ?_)
                  · have d_136 := c_136
                    simp only [kt_lt, kt_le, kt_eq, kt_c0, kt_c1, kt_c2, kt_c3, kt_c4, kt_c8, kt_c9, kt_cm1, kt_c81, kt_c40, kt_c7, kt_c5, kt_c6, kt_c512, kt_c10, kt_c10000] at d_136
                    exact j_187 (tm, i1, i2) (by show (0 ≤ tm.toInt ∧ tm.toInt = (kt_sn i2 81 : Int)) ∧ kt_r i1 81 (-1) 80; first | exact ⟨htl, hfr⟩ | exact ⟨by rw [show kt_sn (upd i2 r_118.toNatClampNeg (vp_nar .boolean 1)) 81 = kt_sn i2 81 + 1 from hsu.1]; omega, hfr⟩) H _ hP hD hS ls (lv_sub hl [0, 1, 2, 3, 4, 5, 6, 7] rfl)
                  · have d_136 := c_136
                    simp only [kt_lt, kt_le, kt_eq, kt_c0, kt_c1, kt_c2, kt_c3, kt_c4, kt_c8, kt_c9, kt_cm1, kt_c81, kt_c40, kt_c7, kt_c5, kt_c6, kt_c512, kt_c10, kt_c10000] at d_136
                    refine lv_aload_n hx hb dX5_holds_139 rfl (lv_at hl 5 rfl) ?_
                    refine lv_aload_n hx hb dX5_holds_140 rfl (lv_at hl 6 rfl) ?_
                    refine lv_iload hx hb dX5_holds_141 (lv_at hl 0 rfl) ?_
                    refine lv_iload_n hx hb dX5_holds_143 rfl (lv_at hl 7 rfl) ?_
                    refine kt_pi (wc := [(ho, .inr (5, [.ref ru, .ref ora, .ref osa])), (ru, .inr (6, [.ref la, .ref gr, .ref rk, .ref rs, .ref rt, .int tt, .int kg, .ref rv, .int vc])), (nw, .inr (8, [.ref sf, .ref sh, .int tu])), (sh, .inl (cI, 81, .inl fh)), (rs, .inl (cI, 40, .inl fs))]) [0, 3, 7, 9, 10] hP hD hS hA rfl (by decide) (fun hPc hDc => va_runV (As := [.ref nw, .int r_118, .int p2]) (rest := []) ⟨hx, hb, hml, hown, hts⟩ (c_X5_isBarred l D cI cZ cB H.size ho ora osa ru la gr rk rs rt rv tt kg vc nw sf sh tu fh fs r_118 p2 (by first | assumption | omega | rfl | decide) (by first | assumption | omega | rfl | decide) (by first | assumption | omega | rfl | decide)) (cwV 3 hts gX5_holds_X5_isBarred rfl rfl rfl (by decide +kernel) ⟨Nat.le_of_ble_eq_true rfl, Nat.le_of_ble_eq_true rfl⟩) (kt_preV hN hK hPc hDc 0 (ci := 5) (q := (RX5, TX5, 3)) rfl rfl) rfl rfl hl.1 rfl (lv_room (Nat.le_of_ble_eq_true rfl)) dX5_holds_144 ⟨Nat.le_of_ble_eq_true rfl, Nat.le_of_ble_eq_true rfl⟩) (fun r_144 _ H locs hw_144 hP hS => ?_)
                    refine lv_if_eq (tgt := 153) hx hb dX5_holds_147 (by decide) (fun c_147 => ?_) (fun c_147 => ?_)
                    · have d_147 := c_147
                      simp only [kt_lt, kt_le, kt_eq, kt_c0, kt_c1, kt_c2, kt_c3, kt_c4, kt_c8, kt_c9, kt_cm1, kt_c81, kt_c40, kt_c7, kt_c5, kt_c6, kt_c512, kt_c10, kt_c10000] at d_147
                      refine lv_aload_n hx hb dX5_holds_153 rfl (lv_at hl 5 rfl) ?_
                      refine va_get (D := D) (ci := 5) (C := RX5) (T := TX5) (N := 3) hx hb hts iw_X5_holds_X5 hown hK hP 0 rfl rfl 0 (by decide) (hts (.fieldLink RX5 19 "KingTable$Ring" "rules" "LKingTable$Rules;") (kt_wp_X5_holds__X5_holds_r1 kt_wm0)) (fun _ h9 => h9) rfl dX5_holds_154 ?_
                      refine lv_iload hx hb dX5_holds_157 (lv_at hl 0 rfl) ?_
                      refine kt_pi (wc := [(ru, .inr (6, [.ref la, .ref gr, .ref rk, .ref rs, .ref rt, .int tt, .int kg, .ref rv, .int vc])), (gr, .inr (0, [.ref gt, .ref gg, .ref gn, .int gs, .int gm])), (gg, .inl (cZ, 81, .inl gl))]) [3, 4, 6] hP hD hS hA rfl (by decide) (fun hPc hDc => va_runV (As := [.int r_118]) (rest := []) ⟨hx, hb, hml, hown, hts⟩ (c_X6_isGoal l D cI cZ cB H.size ru la gr rk rs rt rv tt kg vc gt gg gn gs gm gl r_118 (by first | assumption | omega | rfl | decide) (by first | assumption | omega | rfl | decide)) (cwV 1 hts gX5_holds_X6_isGoal rfl rfl rfl (by decide +kernel) ⟨Nat.le_of_ble_eq_true rfl, Nat.le_of_ble_eq_true rfl⟩) (kt_preV hN hK hPc hDc 0 (ci := 6) (q := (RX6, TX6, 9)) rfl rfl) rfl rfl hl.1 rfl (lv_room (Nat.le_of_ble_eq_true rfl)) dX5_holds_159 ⟨Nat.le_of_ble_eq_true rfl, Nat.le_of_ble_eq_true rfl⟩) (fun r_159 _ H locs hw_159 hP hS => ?_)
                      refine lv_if_eq (tgt := 167) hx hb dX5_holds_162 (by decide) (fun c_162 => ?_) (fun c_162 => ?_)
                      · have d_162 := c_162
                        simp only [kt_lt, kt_le, kt_eq, kt_c0, kt_c1, kt_c2, kt_c3, kt_c4, kt_c8, kt_c9, kt_cm1, kt_c81, kt_c40, kt_c7, kt_c5, kt_c6, kt_c512, kt_c10, kt_c10000] at d_162
                        have hsu := kt_sn_upd i2 (i := r_118.toNatClampNeg) (by rw [← ea_135]; exact c_136) (n := 81) (by show r_118.toInt.toNat < 81; omega)
                        refine lv_aload_n hx hb dX5_holds_167 rfl (lv_at hl 5 rfl) ?_
                        refine va_get (D := D) (ci := 5) (C := RX5) (T := TX5) (N := 3) hx hb hts iw_X5_holds_X5 hown hK hP 0 rfl rfl 2 (by decide) (hts (.fieldLink RX5 15 "KingTable$Ring" "seen" "[Z") (kt_wp_X5_holds__X5_holds_r1 kt_wm1)) (fun _ h9 => h9) rfl dX5_holds_168 ?_
                        refine lv_iload hx hb dX5_holds_171 (lv_at hl 0 rfl) ?_
                        refine lv_iconst (v := 1) hx hb dX5_holds_173 (by decide) ?_
                        have hi_5 : vp_in r_118 81 := by exact kt_in (by omega) (by omega)
                        refine va_zast hx hb hK hP hD hS 2 1 rfl rfl hi_5 dX5_holds_174 (fun H locs hP hD hS => ?_)
                        have hP : va_P D vwCl [(ho, .inr (5, [.ref ru, .ref ora, .ref osa])), (ora, .inl (cI, 81, .inl i1)), (osa, .inl (cZ, 81, .inl (upd i2 r_118.toNatClampNeg (vp_nar .boolean 1)))), (ru, .inr (6, [.ref la, .ref gr, .ref rk, .ref rs, .ref rt, .int tt, .int kg, .ref rv, .int vc])), (gr, .inr (0, [.ref gt, .ref gg, .ref gn, .int gs, .int gm])), (gn, .inl (cI, 324, .inl nb)), (gg, .inl (cZ, 81, .inl gl)), (nw, .inr (8, [.ref sf, .ref sh, .int tu])), (sf, .inl (cI, 40, .inl ff)), (sh, .inl (cI, 81, .inl fh)), (rs, .inl (cI, 40, .inl fs))] H := hP
                        have hD : va_D A [(ho, .inr (5, [.ref ru, .ref ora, .ref osa])), (ora, .inl (cI, 81, .inl i1)), (osa, .inl (cZ, 81, .inl (upd i2 r_118.toNatClampNeg (vp_nar .boolean 1)))), (ru, .inr (6, [.ref la, .ref gr, .ref rk, .ref rs, .ref rt, .int tt, .int kg, .ref rv, .int vc])), (gr, .inr (0, [.ref gt, .ref gg, .ref gn, .int gs, .int gm])), (gn, .inl (cI, 324, .inl nb)), (gg, .inl (cZ, 81, .inl gl)), (nw, .inr (8, [.ref sf, .ref sh, .int tu])), (sf, .inl (cI, 40, .inl ff)), (sh, .inl (cI, 81, .inl fh)), (rs, .inl (cI, 40, .inl fs))] := hD
                        refine lv_aload_n hx hb dX5_holds_175 rfl (lv_at hl 5 rfl) ?_
                        refine va_get (D := D) (ci := 5) (C := RX5) (T := TX5) (N := 3) hx hb hts iw_X5_holds_X5 hown hK hP 0 rfl rfl 1 (by decide) (hts (.fieldLink RX5 9 "KingTable$Ring" "reached" "[I") (kt_wp_X5_holds__X5_holds_r1 kt_wm2)) (fun _ h9 => h9) rfl dX5_holds_176 ?_
                        refine lv_iload hx hb dX5_holds_179 (lv_at hl 3 rfl) ?_
                        refine lv_iload hx hb dX5_holds_181 (lv_at hl 0 rfl) ?_
                        have hi_6 : vp_in tm 81 := by exact kt_in (by omega) (by omega)
                        refine va_iast hx hb hK hP hD hS 1 0 rfl rfl hi_6 dX5_holds_183 (fun H locs hP hD hS => ?_)
                        have hfr : kt_r (upd i1 tm.toNatClampNeg r_118) 81 (-1) 80 := hfr.upd (by omega) (by omega)
                        have hP : va_P D vwCl [(ho, .inr (5, [.ref ru, .ref ora, .ref osa])), (ora, .inl (cI, 81, .inl (upd i1 tm.toNatClampNeg r_118))), (osa, .inl (cZ, 81, .inl (upd i2 r_118.toNatClampNeg (vp_nar .boolean 1)))), (ru, .inr (6, [.ref la, .ref gr, .ref rk, .ref rs, .ref rt, .int tt, .int kg, .ref rv, .int vc])), (gr, .inr (0, [.ref gt, .ref gg, .ref gn, .int gs, .int gm])), (gn, .inl (cI, 324, .inl nb)), (gg, .inl (cZ, 81, .inl gl)), (nw, .inr (8, [.ref sf, .ref sh, .int tu])), (sf, .inl (cI, 40, .inl ff)), (sh, .inl (cI, 81, .inl fh)), (rs, .inl (cI, 40, .inl fs))] H := hP
                        have hD : va_D A [(ho, .inr (5, [.ref ru, .ref ora, .ref osa])), (ora, .inl (cI, 81, .inl (upd i1 tm.toNatClampNeg r_118))), (osa, .inl (cZ, 81, .inl (upd i2 r_118.toNatClampNeg (vp_nar .boolean 1)))), (ru, .inr (6, [.ref la, .ref gr, .ref rk, .ref rs, .ref rt, .int tt, .int kg, .ref rv, .int vc])), (gr, .inr (0, [.ref gt, .ref gg, .ref gn, .int gs, .int gm])), (gn, .inl (cI, 324, .inl nb)), (gg, .inl (cZ, 81, .inl gl)), (nw, .inr (8, [.ref sf, .ref sh, .int tu])), (sf, .inl (cI, 40, .inl ff)), (sh, .inl (cI, 81, .inl fh)), (rs, .inl (cI, 40, .inl fs))] := hD
                        obtain ⟨t_184, et_184⟩ : ∃ y : Int32, y = tm + 1 := ⟨_, rfl⟩
                        obtain ⟨k_184, hk_184, hm_184, hM_184⟩ := kt_addk et_184
                        try simp only [kt_c0, kt_c1, kt_c2, kt_c3, kt_c4, kt_c8, kt_c9, kt_cm1, kt_c81, kt_c40, kt_c7, kt_c5, kt_c6, kt_c512, kt_c10, kt_c10000] at hk_184
                        refine lv_iinc (v := t_184) (lv' := [(4, .int t_184), (7, .int r_118), (6, .int (nI w)), (5, .int hd), (3, .int r_8), (0, .ref ho), (1, .ref nw), (2, .int p2)]) hx hb dX5_holds_184 hl (k := 3) rfl (by rw [et_184]; rfl) (by decide) rfl (fun ls hl => ?_)
                        exact j_187 (t_184, (upd i1 tm.toNatClampNeg r_118), (upd i2 r_118.toNatClampNeg (vp_nar .boolean 1))) (by show (0 ≤ t_184.toInt ∧ t_184.toInt = (kt_sn (upd i2 r_118.toNatClampNeg (vp_nar .boolean 1)) 81 : Int)) ∧ kt_r (upd i1 tm.toNatClampNeg r_118) 81 (-1) 80; first | exact ⟨htl, hfr⟩ | exact ⟨by rw [show kt_sn (upd i2 r_118.toNatClampNeg (vp_nar .boolean 1)) 81 = kt_sn i2 81 + 1 from hsu.1]; omega, hfr⟩) H _ hP hD hS ls (lv_sub hl [1, 2, 3, 0, 4, 5, 6, 7] rfl)
                      · have d_162 := c_162
                        simp only [kt_lt, kt_le, kt_eq, kt_c0, kt_c1, kt_c2, kt_c3, kt_c4, kt_c8, kt_c9, kt_cm1, kt_c81, kt_c40, kt_c7, kt_c5, kt_c6, kt_c512, kt_c10, kt_c10000] at d_162
                        refine lv_iconst (v := 0) hx hb dX5_holds_165 (by decide) ?_
                        exact kt_rz (i1, i2) hx hb hr hlk hS dX5_holds_166 hP hD (by show (0 ≤ (0 : Int32).toInt ∧ (0 : Int32).toInt ≤ 1) ∧ kt_r i1 81 (-1) 80; exact ⟨by decide, hfr⟩) rfl
                    · have d_147 := c_147
                      simp only [kt_lt, kt_le, kt_eq, kt_c0, kt_c1, kt_c2, kt_c3, kt_c4, kt_c8, kt_c9, kt_cm1, kt_c81, kt_c40, kt_c7, kt_c5, kt_c6, kt_c512, kt_c10, kt_c10000] at d_147
                      refine lv_goto (tgt := 187) hx hb dX5_holds_150 (by decide) ?_
                      exact j_187 (tm, i1, i2) (by show (0 ≤ tm.toInt ∧ tm.toInt = (kt_sn i2 81 : Int)) ∧ kt_r i1 81 (-1) 80; first | exact ⟨htl, hfr⟩ | exact ⟨by rw [show kt_sn (upd i2 r_118.toNatClampNeg (vp_nar .boolean 1)) 81 = kt_sn i2 81 + 1 from hsu.1]; omega, hfr⟩) H _ hP hD hS ls (lv_sub hl [0, 1, 2, 3, 4, 5, 6, 7] rfl)
        · have d_42 := c_42
          simp only [kt_lt, kt_le, kt_eq, kt_c0, kt_c1, kt_c2, kt_c3, kt_c4, kt_c8, kt_c9, kt_cm1, kt_c81, kt_c40, kt_c7, kt_c5, kt_c6, kt_c512, kt_c10, kt_c10000] at d_42
          refine lv_aload_n hx hb dX5_holds_45 rfl (lv_at hl 2 rfl) ?_
          refine va_get (D := D) (ci := 5) (C := RX5) (T := TX5) (N := 3) hx hb hts iw_X5_holds_X5 hown hK hP 0 rfl rfl 2 (by decide) (hts (.fieldLink RX5 15 "KingTable$Ring" "seen" "[Z") (kt_wp_X5_holds__X5_holds_r1 kt_wm1)) (fun _ h9 => h9) rfl dX5_holds_46 ?_
          refine lv_iload hx hb dX5_holds_49 (lv_at hl 0 rfl) ?_
          refine lv_iconst (v := 0) hx hb dX5_holds_51 (by decide) ?_
          have hi_7 : vp_in (nI k) 81 := by exact kt_in (by omega) (by omega)
          refine va_zast hx hb hK hP hD hS 2 1 rfl rfl hi_7 dX5_holds_52 (fun H locs hP hD hS => ?_)
          have hP : va_P D vwCl [(ho, .inr (5, [.ref ru, .ref ora, .ref osa])), (ora, .inl (cI, 81, .inl fr)), (osa, .inl (cZ, 81, .inl (upd z (nI k).toNatClampNeg (vp_nar .boolean 0)))), (ru, .inr (6, [.ref la, .ref gr, .ref rk, .ref rs, .ref rt, .int tt, .int kg, .ref rv, .int vc])), (gr, .inr (0, [.ref gt, .ref gg, .ref gn, .int gs, .int gm])), (gn, .inl (cI, 324, .inl nb)), (gg, .inl (cZ, 81, .inl gl)), (nw, .inr (8, [.ref sf, .ref sh, .int tu])), (sf, .inl (cI, 40, .inl ff)), (sh, .inl (cI, 81, .inl fh)), (rs, .inl (cI, 40, .inl fs))] H := hP
          have hD : va_D A [(ho, .inr (5, [.ref ru, .ref ora, .ref osa])), (ora, .inl (cI, 81, .inl fr)), (osa, .inl (cZ, 81, .inl (upd z (nI k).toNatClampNeg (vp_nar .boolean 0)))), (ru, .inr (6, [.ref la, .ref gr, .ref rk, .ref rs, .ref rt, .int tt, .int kg, .ref rv, .int vc])), (gr, .inr (0, [.ref gt, .ref gg, .ref gn, .int gs, .int gm])), (gn, .inl (cI, 324, .inl nb)), (gg, .inl (cZ, 81, .inl gl)), (nw, .inr (8, [.ref sf, .ref sh, .int tu])), (sf, .inl (cI, 40, .inl ff)), (sh, .inl (cI, 81, .inl fh)), (rs, .inl (cI, 40, .inl fs))] := hD
          refine lv_iinc (v := nI (k + 1)) (lv' := [(4, .int (nI (k + 1))), (3, .int r_8), (0, .ref ho), (1, .ref nw), (2, .int p2)]) hx hb dX5_holds_53 hl (k := 0) rfl (nI_1 _) (by decide) rfl (fun ls hl => ?_)
          refine lv_goto (tgt := 38) hx hb dX5_holds_56 (by decide) ?_
          exact ih_38 ((k + 1), (upd z (nI k).toNatClampNeg (vp_nar .boolean 0))) (by show ((k + 1) ≤ 81 ∧ 81 < (k + 1) + n_38) ∧ ∀ j, j < (k + 1) → (upd z (nI k).toNatClampNeg (vp_nar .boolean 0)) j = 0; refine ⟨by omega, fun j hj => ?_⟩; rw [nI_clamp (by omega)]; exact if hjk : j = k then (by rw [hjk, pk_us]; rfl) else (by rw [pk_un hjk]; exact hz j (by omega))) H _ hP hD hS ls (lv_sub hl [0, 1, 2, 3, 4] rfl)
      · have d_30 := c_30
        simp only [kt_lt, kt_le, kt_eq, kt_c0, kt_c1, kt_c2, kt_c3, kt_c4, kt_c8, kt_c9, kt_cm1, kt_c81, kt_c40, kt_c7, kt_c5, kt_c6, kt_c512, kt_c10, kt_c10000] at d_30
        refine lv_iconst (v := 0) hx hb dX5_holds_33 (by decide) ?_
        exact kt_rz (fr, fz) hx hb hr hlk hS dX5_holds_34 hP hD (by show (0 ≤ (0 : Int32).toInt ∧ (0 : Int32).toInt ≤ 1) ∧ kt_r fr 81 (-1) 80; exact ⟨by decide, hfr⟩) rfl
