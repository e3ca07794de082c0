theorem iw_X9_canBegin_X9 : ∀ w ∈ wsX90, w ∈ wsX9_canBegin := by decide +kernel
set_option maxHeartbeats 4000000 in
set_option maxRecDepth 100000 in
theorem f_X9_canBegin (l : Launch) (D : va_G) (cI cZ cB : ClassId) (sz : Nat) (to : Nat) (sg : Nat) : kt_Mi l yX9_canBegin wsX9_canBegin { frames := 1, cells := 0, slots := 0, locals := 20 } D (kt_ty cI cZ cB) [.ref to] sz [(to, .inr (9, [.ref sg, .int 3, .int 3])), (sg, .inl (cI, 81, .inl (fun _ => 0)))] (fun (r : Int32) (u : Unit) => r = 0) (fun (u : Unit) => [(to, .inr (9, [.ref sg, .int 3, .int 3])), (sg, .inl (cI, 81, .inl (fun _ => 0)))]) 0 0 := by
  refine kt_Mi.of (cc := cX9_canBegin) (maxL := 8) (ret := some .boolean) (by decide) rfl (Nat.le_of_ble_eq_true rfl) ?_
  intro p e s m below meth c A ls H hAt hP hD hS hl
  obtain ⟨hx, hb, hr, hml, hown, hts, hN, hK, hlk, hnm, hA⟩ := hAt
  have hl : lv_has ls 8 [(0, .ref to)] := hl
  have hown : s.vm.findClass RX9 = some m.cls := hown
  refine lv_iconst (v := 0) hx hb dX9_canBegin_0 (by decide) ?_
  refine lv_istore_n (lv' := [(1, .int 0), (0, .ref to)]) hx hb dX9_canBegin_1 rfl hl (by decide) rfl (fun ls hl => ?_)
  refine lv_iconst (v := 0) hx hb dX9_canBegin_2 (by decide) ?_
  refine lv_istore_n (lv' := [(2, .int 0), (1, .int 0), (0, .ref to)]) hx hb dX9_canBegin_3 rfl hl (by decide) rfl (fun ls hl => ?_)
  refine lv_iconst (v := 0) hx hb dX9_canBegin_4 (by decide) ?_
  refine lv_istore_n (lv' := [(3, .int 0), (2, .int 0), (1, .int 0), (0, .ref to)]) hx hb dX9_canBegin_5 rfl hl (by decide) rfl (fun ls hl => ?_)
  refine lv_iconst (v := 0) hx hb dX9_canBegin_6 (by decide) ?_
  refine lv_istore (lv' := [(4, .int 0), (3, .int 0), (2, .int 0), (1, .int 0), (0, .ref to)]) hx hb dX9_canBegin_7 hl (by decide) rfl (fun ls hl => ?_)
  refine lv_aload_n hx hb dX9_canBegin_9 rfl (lv_at hl 4 rfl) ?_
  refine kt_pi (wc := [(to, .inr (9, [.ref sg, .int 3, .int 3]))]) [0] hP hD hS hA rfl (by decide) (fun hPc hDc => va_runV (As := []) (rest := []) ⟨hx, hb, hml, hown, hts⟩ (f_X9_size l D cI cZ cB H.size to sg ) (cwV 0 hts gX9_canBegin_X9_size rfl rfl rfl (by decide +kernel) ⟨Nat.le_of_ble_eq_true rfl, Nat.le_of_ble_eq_true rfl⟩) (kt_preV hN hK hPc hDc 0 (ci := 9) (q := (RX9, TX9, 3)) rfl rfl) rfl rfl hl.1 rfl (lv_room (Nat.le_of_ble_eq_true rfl)) dX9_canBegin_10 ⟨Nat.le_of_ble_eq_true rfl, Nat.le_of_ble_eq_true rfl⟩) (fun r_10 _ H locs hw_10 hP hS => ?_)
  subst hw_10
  refine lv_istore (lv' := [(5, .int 9), (4, .int 0), (3, .int 0), (2, .int 0), (1, .int 0), (0, .ref to)]) hx hb dX9_canBegin_13 hl (by decide) rfl (fun ls hl => ?_)
  refine lv_iconst (v := 0) hx hb dX9_canBegin_15 (by decide) ?_
  refine lv_istore (lv' := [(6, .int 0), (5, .int 9), (4, .int 0), (3, .int 0), (2, .int 0), (1, .int 0), (0, .ref to)]) hx hb dX9_canBegin_16 hl (by decide) rfl (fun ls hl => ?_)
  refine kt_loop (σ := Nat) 18 8 (fun u => [(to, .inr (9, [.ref sg, .int 3, .int 3])), (sg, .inl (cI, 81, .inl (fun _ => 0)))]) (fun u => [(6, .int (nI u)), (5, .int 9), (4, .int 0), (3, .int 0), (2, .int 0), (1, .int 0), (0, .ref to)]) (fun n u => u ≤ 9 ∧ 9 < u + n) (fun u h => by omega) (fun n ih_18 u hI H locs hP hD hS ls hl => ?_) (10) 0 (by show 0 ≤ 9 ∧ 9 < 0 + 10; exact ⟨by decide, by decide⟩) hP hD hS (lv_sub hl [0, 1, 2, 3, 4, 5, 6] rfl)
  obtain ⟨k, rfl⟩ : ∃ z, z = u := ⟨_, rfl⟩
  have hP : va_P D vwCl [(to, .inr (9, [.ref sg, .int 3, .int 3])), (sg, .inl (cI, 81, .inl (fun _ => 0)))] H := hP
  have hD : va_D A [(to, .inr (9, [.ref sg, .int 3, .int 3])), (sg, .inl (cI, 81, .inl (fun _ => 0)))] := hD
  have hl : lv_has ls 8 [(6, .int (nI k)), (5, .int 9), (4, .int 0), (3, .int 0), (2, .int 0), (1, .int 0), (0, .ref to)] := hl
  have hI : k ≤ 9 ∧ 9 < k + (n + 1) := hI
  refine lv_iload hx hb dX9_canBegin_18 (lv_at hl 0 rfl) ?_
  refine lv_iload hx hb dX9_canBegin_20 (lv_at hl 1 rfl) ?_
  refine lv_icmp_ge (tgt := 114) hx hb dX9_canBegin_22 (by decide) (fun c_22 => ?_) (fun c_22 => ?_)
  · refine lv_iload_n hx hb dX9_canBegin_114 rfl (lv_at hl 5 rfl) ?_
    refine lv_iconst (v := 1) hx hb dX9_canBegin_115 (by decide) ?_
    refine lv_icmp_ne (tgt := 140) hx hb dX9_canBegin_116 (by decide) (fun c_116 => ?_) (fun c_116 => absurd c_116 (by decide))
    refine lv_iconst (v := 0) hx hb dX9_canBegin_140 (by decide) ?_
    exact kt_rz () hx hb hr hlk hS dX9_canBegin_141 hP hD (by rfl) rfl
  · have hk : k < 9 := by
      rcases Nat.lt_or_ge k 9 with q | q
      · exact q
      · exact absurd (nI_le q (by omega)) c_22
    refine lv_aload_n hx hb dX9_canBegin_25 rfl (lv_at hl 6 rfl) ?_
    refine va_get (D := D) (ci := 9) (C := RX9) (T := TX9) (N := 3) hx hb hts iw_X9_canBegin_X9 hown hK hP 0 rfl rfl 0 (by decide) (hts (.fieldLink RX9 9 "KingTable$Told" "signs" "[I") (by decide +kernel)) (fun _ h9 => h9) rfl dX9_canBegin_26 ?_
    refine lv_iload hx hb dX9_canBegin_29 (lv_at hl 0 rfl) ?_
    have hi_1 : vp_in (nI k) 81 := by exact vp_in_nI (by omega) (by omega)
    refine va_iald hx hb hK hP 1 0 rfl rfl hi_1 dX9_canBegin_31 ?_
    refine W.eq (g2 := F0 m 32 ls [.int 0]) rfl ?_
    refine kt_pi (wc := []) [] hP hD hS hA rfl (by decide) (fun hPc hDc => va_runSN (As := [.int 0]) (rest := []) ⟨hx, hb, hml, hown, hts⟩ (f_X10_kindOfSign l D cI cZ cB H.size  ) ⟨va_cnB 1 hts gX9_canBegin_X10_kindOfSign_n36 rfl rfl rfl (hN (.methodLinkNest "KingTable$Told" 36 yX10_kindOfSign "KingTable") (by decide +kernel)) (hts (.initialized RX10) (by decide +kernel)) (by decide +kernel) ⟨Nat.le_of_ble_eq_true rfl, Nat.le_of_ble_eq_true rfl⟩, (hts (.static yX10_kindOfSign) (by decide +kernel)), trivial⟩ (kt_preS hN hK hPc hDc) rfl rfl hl.1 rfl (lv_room (Nat.le_of_ble_eq_true rfl)) dX9_canBegin_32 ⟨Nat.le_of_ble_eq_true rfl, Nat.le_of_ble_eq_true rfl⟩) (fun r_32 _ H locs hw_32 hP hS => ?_)
    subst hw_32
    refine lv_istore (lv' := [(7, .int 0), (6, .int (nI k)), (5, .int 9), (4, .int 0), (3, .int 0), (2, .int 0), (1, .int 0), (0, .ref to)]) hx hb dX9_canBegin_35 hl (by decide) rfl (fun ls hl => ?_)
    refine lv_iload_n hx hb dX9_canBegin_37 rfl (lv_at hl 6 rfl) ?_
    refine lv_iload hx hb dX9_canBegin_38 (lv_at hl 0 rfl) ?_
    refine lv_iconst (v := 2) hx hb dX9_canBegin_40 (by decide) ?_
    refine lv_icmp_ne (tgt := 48) hx hb dX9_canBegin_41 (by decide) (fun c_41 => ?_) (fun c_41 => absurd c_41 (by decide))
    refine lv_iconst (v := 0) hx hb dX9_canBegin_48 (by decide) ?_
    refine lv_iadd hx hb dX9_canBegin_49 ?_
    refine W.eq (g2 := F0 m 50 ls (.int 0 :: [])) rfl ?_
    refine lv_istore_n (lv' := [(1, .int 0), (7, .int 0), (6, .int (nI k)), (5, .int 9), (4, .int 0), (3, .int 0), (2, .int 0), (0, .ref to)]) hx hb dX9_canBegin_50 rfl hl (by decide) rfl (fun ls hl => ?_)
    refine lv_iload_n hx hb dX9_canBegin_51 rfl (lv_at hl 6 rfl) ?_
    refine lv_iload hx hb dX9_canBegin_52 (lv_at hl 1 rfl) ?_
    refine lv_iconst (v := 3) hx hb dX9_canBegin_54 (by decide) ?_
    refine lv_icmp_eq (tgt := 64) hx hb dX9_canBegin_55 (by decide) (fun c_55 => absurd c_55 (by decide)) (fun c_55 => ?_)
    refine lv_iload hx hb dX9_canBegin_58 (lv_at hl 1 rfl) ?_
    refine lv_iconst (v := 4) hx hb dX9_canBegin_60 (by decide) ?_
    refine lv_icmp_ne (tgt := 68) hx hb dX9_canBegin_61 (by decide) (fun c_61 => ?_) (fun c_61 => absurd c_61 (by decide))
    refine lv_iconst (v := 0) hx hb dX9_canBegin_68 (by decide) ?_
    refine lv_iadd hx hb dX9_canBegin_69 ?_
    refine W.eq (g2 := F0 m 70 ls (.int 0 :: [])) rfl ?_
    refine lv_istore_n (lv' := [(2, .int 0), (1, .int 0), (7, .int 0), (6, .int (nI k)), (5, .int 9), (4, .int 0), (3, .int 0), (0, .ref to)]) hx hb dX9_canBegin_70 rfl hl (by decide) rfl (fun ls hl => ?_)
    refine lv_iload_n hx hb dX9_canBegin_71 rfl (lv_at hl 6 rfl) ?_
    refine lv_iload hx hb dX9_canBegin_72 (lv_at hl 2 rfl) ?_
    refine lv_if_ne (tgt := 81) hx hb dX9_canBegin_74 (by decide) (fun c_74 => absurd c_74 (by decide)) (fun c_74 => ?_)
    refine lv_iconst (v := 0) hx hb dX9_canBegin_77 (by decide) ?_
    refine lv_goto (tgt := 82) hx hb dX9_canBegin_78 (by decide) ?_
    refine lv_iadd hx hb dX9_canBegin_82 ?_
    refine W.eq (g2 := F0 m 83 ls (.int 0 :: [])) rfl ?_
    refine lv_istore_n (lv' := [(3, .int 0), (2, .int 0), (1, .int 0), (7, .int 0), (6, .int (nI k)), (5, .int 9), (4, .int 0), (0, .ref to)]) hx hb dX9_canBegin_83 rfl hl (by decide) rfl (fun ls hl => ?_)
    refine lv_iload hx hb dX9_canBegin_84 (lv_at hl 6 rfl) ?_
    refine lv_aload_n hx hb dX9_canBegin_86 rfl (lv_at hl 7 rfl) ?_
    refine va_get (D := D) (ci := 9) (C := RX9) (T := TX9) (N := 3) hx hb hts iw_X9_canBegin_X9 hown hK hP 0 rfl rfl 0 (by decide) (hts (.fieldLink RX9 9 "KingTable$Told" "signs" "[I") (by decide +kernel)) (fun _ h9 => h9) rfl dX9_canBegin_87 ?_
    refine lv_iload hx hb dX9_canBegin_90 (lv_at hl 4 rfl) ?_
    have hi_2 : vp_in (nI k) 81 := by exact vp_in_nI (by omega) (by omega)
    refine va_iald hx hb hK hP 1 0 rfl rfl hi_2 dX9_canBegin_92 ?_
    refine W.eq (g2 := F0 m 93 ls [.int 0, .int 0]) rfl ?_
    refine kt_pi (wc := []) [] hP hD hS hA rfl (by decide) (fun hPc hDc => va_runSN (As := [.int 0]) (rest := [.int 0]) ⟨hx, hb, hml, hown, hts⟩ (f_X10_typeOfSign l D cI cZ cB H.size  ) ⟨va_cnB 1 hts gX9_canBegin_X10_typeOfSign_n40 rfl rfl rfl (hN (.methodLinkNest "KingTable$Told" 40 yX10_typeOfSign "KingTable") (by decide +kernel)) (hts (.initialized RX10) (by decide +kernel)) (by decide +kernel) ⟨Nat.le_of_ble_eq_true rfl, Nat.le_of_ble_eq_true rfl⟩, (hts (.static yX10_typeOfSign) (by decide +kernel)), trivial⟩ (kt_preS hN hK hPc hDc) rfl rfl hl.1 rfl (lv_room (Nat.le_of_ble_eq_true rfl)) dX9_canBegin_93 ⟨Nat.le_of_ble_eq_true rfl, Nat.le_of_ble_eq_true rfl⟩) (fun r_93 _ H locs hw_93 hP hS => ?_)
    subst hw_93
    refine lv_iconst (v := 1) hx hb dX9_canBegin_96 (by decide) ?_
    refine lv_icmp_ne (tgt := 104) hx hb dX9_canBegin_97 (by decide) (fun c_97 => ?_) (fun c_97 => absurd c_97 (by decide))
    refine lv_iconst (v := 0) hx hb dX9_canBegin_104 (by decide) ?_
    refine lv_iadd hx hb dX9_canBegin_105 ?_
    refine W.eq (g2 := F0 m 106 ls (.int 0 :: [])) rfl ?_
    refine lv_istore (lv' := [(4, .int 0), (3, .int 0), (2, .int 0), (1, .int 0), (7, .int 0), (6, .int (nI k)), (5, .int 9), (0, .ref to)]) hx hb dX9_canBegin_106 hl (by decide) rfl (fun ls hl => ?_)
    refine lv_iinc (v := nI (k + 1)) (lv' := [(6, .int (nI (k + 1))), (4, .int 0), (3, .int 0), (2, .int 0), (1, .int 0), (7, .int 0), (5, .int 9), (0, .ref to)]) hx hb dX9_canBegin_108 hl (k := 5) rfl (nI_1 _) (by decide) rfl (fun ls hl => ?_)
    refine lv_goto (tgt := 18) hx hb dX9_canBegin_111 (by decide) ?_
    exact ih_18 (k + 1) (by show (k + 1) ≤ 9 ∧ 9 < (k + 1) + n; omega) H _ hP hD hS ls (lv_sub hl [0, 6, 1, 2, 3, 4, 7] rfl)

theorem iw_X10_begin_X10 : ∀ w ∈ wsX100, w ∈ wsX10_begin := by decide +kernel
set_option maxHeartbeats 4000000 in
set_option maxRecDepth 100000 in
theorem f_X10_begin (l : Launch) (D : va_G) (cI cZ cB : ClassId) (sz : Nat) (kt : Nat) (to : Nat) (la : Nat) (ru : Nat) (pl : Nat) (ho : Nat) (so : Nat) (sg : Nat) (nw : Nat) (lo : Nat) (p1 : Int32) : kt_Mi l yX10_begin wsX10_begin { frames := 2, cells := 0, slots := 0, locals := 47 } D (kt_ty cI cZ cB) [.ref kt, .int p1] sz [(kt, .inr (10, [.ref to, .ref la, .ref ru, .ref pl, .ref ho, .ref so])), (pl, .inr (4, [.ref la, .ref ru, .ref nw, .ref lo, .int 0])), (to, .inr (9, [.ref sg, .int 3, .int 3])), (sg, .inl (cI, 81, .inl (fun _ => 0)))] (fun (r : Int32) (u : Unit) => r = (-1)) (fun (u : Unit) => [(kt, .inr (10, [.ref to, .ref la, .ref ru, .ref pl, .ref ho, .ref so])), (pl, .inr (4, [.ref la, .ref ru, .ref nw, .ref lo, .int 0])), (to, .inr (9, [.ref sg, .int 3, .int 3])), (sg, .inl (cI, 81, .inl (fun _ => 0)))]) 0 0 := by
  refine kt_Mi.of (cc := cX10_begin) (maxL := 2) (ret := some .int) (by decide) rfl (Nat.le_of_ble_eq_true rfl) ?_
  intro p e s m below meth c A ls H hAt hP hD hS hl
  obtain ⟨hx, hb, hr, hml, hown, hts, hN, hK, hlk, hnm, hA⟩ := hAt
  have hl : lv_has ls 2 [(0, .ref kt), (1, .int p1)] := hl
  have hown : s.vm.findClass RX10 = some m.cls := hown
  refine lv_aload_n hx hb dX10_begin_0 rfl (lv_at hl 0 rfl) ?_
  refine va_get (D := D) (ci := 10) (C := RX10) (T := TX10) (N := 6) hx hb hts iw_X10_begin_X10 hown hK hP 0 rfl rfl 3 (by decide) (hts (.fieldLink RX10 37 "KingTable" "play" "LKingTable$Play;") (by decide +kernel)) (fun _ h9 => h9) rfl dX10_begin_1 ?_
  refine kt_pi (wc := [(pl, .inr (4, [.ref la, .ref ru, .ref nw, .ref lo, .int 0]))]) [1] hP hD hS hA rfl (by decide) (fun hPc hDc => va_runV (As := []) (rest := []) ⟨hx, hb, hml, hown, hts⟩ (f_X4_isThere l D cI cZ cB H.size pl la ru nw lo ) (cwV 0 hts gX10_begin_X4_isThere rfl rfl rfl (by decide +kernel) ⟨Nat.le_of_ble_eq_true rfl, Nat.le_of_ble_eq_true rfl⟩) (kt_preV hN hK hPc hDc 0 (ci := 4) (q := (RX4, TX4, 5)) rfl rfl) rfl rfl hl.1 rfl (lv_room (Nat.le_of_ble_eq_true rfl)) dX10_begin_4 ⟨Nat.le_of_ble_eq_true rfl, Nat.le_of_ble_eq_true rfl⟩) (fun r_4 _ H locs hw_4 hP hS => ?_)
  subst hw_4
  refine lv_if_ne (tgt := 27) hx hb dX10_begin_7 (by decide) (fun c_7 => absurd c_7 (by decide)) (fun c_7 => ?_)
  refine lv_iload_n hx hb dX10_begin_10 rfl (lv_at hl 1 rfl) ?_
  refine kt_pi (wc := []) [] hP hD hS hA rfl (by decide) (fun hPc hDc => va_runS (As := [.int p1]) (rest := []) ⟨hx, hb, hml, hown, hts⟩ (c_X10_isSide l D cI cZ cB H.size p1 ) (va_cwS 1 hts gX10_begin_X10_isSide rfl rfl rfl (by decide +kernel) ⟨Nat.le_of_ble_eq_true rfl, Nat.le_of_ble_eq_true rfl⟩) (kt_preS hN hK hPc hDc) rfl rfl hl.1 rfl (lv_room (Nat.le_of_ble_eq_true rfl)) dX10_begin_11 ⟨Nat.le_of_ble_eq_true rfl, Nat.le_of_ble_eq_true rfl⟩) (fun r_11 _ H locs hw_11 hP hS => ?_)
  refine lv_if_eq (tgt := 27) hx hb dX10_begin_14 (by decide) (fun c_14 => ?_) (fun c_14 => ?_)
  · refine lv_iconst (v := (-1)) hx hb dX10_begin_27 (by decide) ?_
    exact kt_ri () hx hb hr hlk hS dX10_begin_28 hP hD (by rfl)
  · refine lv_aload_n hx hb dX10_begin_17 rfl (lv_at hl 0 rfl) ?_
    refine va_get (D := D) (ci := 10) (C := RX10) (T := TX10) (N := 6) hx hb hts iw_X10_begin_X10 hown hK hP 0 rfl rfl 0 (by decide) (hts (.fieldLink RX10 10 "KingTable" "told" "LKingTable$Told;") (by decide +kernel)) (fun _ h9 => h9) rfl dX10_begin_18 ?_
    refine kt_pi (wc := [(to, .inr (9, [.ref sg, .int 3, .int 3])), (sg, .inl (cI, 81, .inl (fun _ => 0)))]) [2, 3] hP hD hS hA rfl (by decide) (fun hPc hDc => va_runV (As := []) (rest := []) ⟨hx, hb, hml, hown, hts⟩ (f_X9_canBegin l D cI cZ cB H.size to sg ) (cwV 0 hts gX10_begin_X9_canBegin rfl rfl rfl (by decide +kernel) ⟨Nat.le_of_ble_eq_true rfl, Nat.le_of_ble_eq_true rfl⟩) (kt_preV hN hK hPc hDc 0 (ci := 9) (q := (RX9, TX9, 3)) rfl rfl) rfl rfl hl.1 rfl (lv_room (Nat.le_of_ble_eq_true rfl)) dX10_begin_21 ⟨Nat.le_of_ble_eq_true rfl, Nat.le_of_ble_eq_true rfl⟩) (fun r_21 _ H locs hw_21 hP hS => ?_)
    subst hw_21
    refine lv_if_ne (tgt := 29) hx hb dX10_begin_24 (by decide) (fun c_24 => absurd c_24 (by decide)) (fun c_24 => ?_)
    refine lv_iconst (v := (-1)) hx hb dX10_begin_27 (by decide) ?_
    exact kt_ri () hx hb hr hlk hS dX10_begin_28 hP hD (by rfl)

theorem iw_X10_stop_X10 : ∀ w ∈ wsX100, w ∈ wsX10_stop := by decide +kernel
set_option maxHeartbeats 4000000 in
set_option maxRecDepth 100000 in
theorem f_X10_stop (l : Launch) (D : va_G) (cI cZ cB : ClassId) (sz : Nat) (kt : Nat) (to : Nat) (la : Nat) (ru : Nat) (pl : Nat) (ho : Nat) (so : Nat) (nw : Nat) (lo : Nat) : kt_Mi l yX10_stop wsX10_stop { frames := 1, cells := 0, slots := 0, locals := 20 } D (kt_ty cI cZ cB) [.ref kt] sz [(kt, .inr (10, [.ref to, .ref la, .ref ru, .ref pl, .ref ho, .ref so])), (pl, .inr (4, [.ref la, .ref ru, .ref nw, .ref lo, .int 0]))] (fun (r : Int32) (u : Unit) => r = 0) (fun (u : Unit) => [(kt, .inr (10, [.ref to, .ref la, .ref ru, .ref pl, .ref ho, .ref so])), (pl, .inr (4, [.ref la, .ref ru, .ref nw, .ref lo, .int 0]))]) 0 0 := by
  refine kt_Mi.of (cc := cX10_stop) (maxL := 1) (ret := some .boolean) (by decide) rfl (Nat.le_of_ble_eq_true rfl) ?_
  intro p e s m below meth c A ls H hAt hP hD hS hl
  obtain ⟨hx, hb, hr, hml, hown, hts, hN, hK, hlk, hnm, hA⟩ := hAt
  have hl : lv_has ls 1 [(0, .ref kt)] := hl
  have hown : s.vm.findClass RX10 = some m.cls := hown
  refine lv_aload_n hx hb dX10_stop_0 rfl (lv_at hl 0 rfl) ?_
  refine va_get (D := D) (ci := 10) (C := RX10) (T := TX10) (N := 6) hx hb hts iw_X10_stop_X10 hown hK hP 0 rfl rfl 3 (by decide) (hts (.fieldLink RX10 37 "KingTable" "play" "LKingTable$Play;") (by decide +kernel)) (fun _ h9 => h9) rfl dX10_stop_1 ?_
  refine kt_pi (wc := [(pl, .inr (4, [.ref la, .ref ru, .ref nw, .ref lo, .int 0]))]) [1] hP hD hS hA rfl (by decide) (fun hPc hDc => va_runV (As := []) (rest := []) ⟨hx, hb, hml, hown, hts⟩ (f_X4_isThere l D cI cZ cB H.size pl la ru nw lo ) (cwV 0 hts gX10_stop_X4_isThere rfl rfl rfl (by decide +kernel) ⟨Nat.le_of_ble_eq_true rfl, Nat.le_of_ble_eq_true rfl⟩) (kt_preV hN hK hPc hDc 0 (ci := 4) (q := (RX4, TX4, 5)) rfl rfl) rfl rfl hl.1 rfl (lv_room (Nat.le_of_ble_eq_true rfl)) dX10_stop_4 ⟨Nat.le_of_ble_eq_true rfl, Nat.le_of_ble_eq_true rfl⟩) (fun r_4 _ H locs hw_4 hP hS => ?_)
  subst hw_4
  refine lv_if_ne (tgt := 12) hx hb dX10_stop_7 (by decide) (fun c_7 => absurd c_7 (by decide)) (fun c_7 => ?_)
  refine lv_iconst (v := 0) hx hb dX10_stop_10 (by decide) ?_
  exact kt_rz () hx hb hr hlk hS dX10_stop_11 hP hD (by rfl) rfl

theorem iw_X4_reason_X4 : ∀ w ∈ wsX40, w ∈ wsX4_reason := by decide +kernel
set_option maxHeartbeats 4000000 in
set_option maxRecDepth 100000 in
theorem f_X4_reason (l : Launch) (D : va_G) (cI cZ cB : ClassId) (sz : Nat) (pl : Nat) (la : Nat) (ru : Nat) (nw : Nat) (lo : Nat) (p1 : Int32) (p2 : Int32) (p3 : Int32) : kt_Mi l yX4_reason wsX4_reason { frames := 0, cells := 0, slots := 0, locals := 0 } D (kt_ty cI cZ cB) [.ref pl, .int p1, .int p2, .int p3] sz [(pl, .inr (4, [.ref la, .ref ru, .ref nw, .ref lo, .int 0]))] (fun (r : Int32) (u : Unit) => r = 1) (fun (u : Unit) => [(pl, .inr (4, [.ref la, .ref ru, .ref nw, .ref lo, .int 0]))]) 0 0 := by
  refine kt_Mi.of (cc := cX4_reason) (maxL := 7) (ret := some .int) (by decide) rfl (Nat.le_of_ble_eq_true rfl) ?_
  intro p e s m below meth c A ls H hAt hP hD hS hl
  obtain ⟨hx, hb, hr, hml, hown, hts, hN, hK, hlk, hnm, hA⟩ := hAt
  have hl : lv_has ls 7 [(0, .ref pl), (1, .int p1), (2, .int p2), (3, .int p3)] := hl
  have hown : s.vm.findClass RX4 = some m.cls := hown
  refine lv_aload_n hx hb dX4_reason_0 rfl (lv_at hl 0 rfl) ?_
  refine va_get (D := D) (ci := 4) (C := RX4) (T := TX4) (N := 5) hx hb hts iw_X4_reason_X4 hown hK hP 0 rfl rfl 4 (by decide) (hts (.fieldLink RX4 25 "KingTable$Play" "state" "I") (by decide +kernel)) (fun _ h9 => h9) rfl dX4_reason_1 ?_
  refine lv_iconst (v := 1) hx hb dX4_reason_4 (by decide) ?_
  refine lv_icmp_eq (tgt := 10) hx hb dX4_reason_5 (by decide) (fun c_5 => absurd c_5 (by decide)) (fun c_5 => ?_)
  refine lv_iconst (v := 1) hx hb dX4_reason_8 (by decide) ?_
  exact kt_ri () hx hb hr hlk hS dX4_reason_9 hP hD (by rfl)

set_option maxHeartbeats 4000000 in
set_option maxRecDepth 100000 in
theorem f_X4_tryMove (l : Launch) (D : va_G) (cI cZ cB : ClassId) (sz : Nat) (pl : Nat) (la : Nat) (ru : Nat) (nw : Nat) (lo : Nat) (p1 : Int32) (p2 : Int32) (p3 : Int32) : kt_Mi l yX4_tryMove wsX4_tryMove { frames := 1, cells := 0, slots := 0, locals := 26 } D (kt_ty cI cZ cB) [.ref pl, .int p1, .int p2, .int p3] sz [(pl, .inr (4, [.ref la, .ref ru, .ref nw, .ref lo, .int 0]))] (fun (r : Int32) (u : Unit) => r = (-1)) (fun (u : Unit) => [(pl, .inr (4, [.ref la, .ref ru, .ref nw, .ref lo, .int 0]))]) 0 0 := by
  refine kt_Mi.of (cc := cX4_tryMove) (maxL := 4) (ret := some .int) (by decide) rfl (Nat.le_of_ble_eq_true rfl) ?_
  intro p e s m below meth c A ls H hAt hP hD hS hl
  obtain ⟨hx, hb, hr, hml, hown, hts, hN, hK, hlk, hnm, hA⟩ := hAt
  have hl : lv_has ls 4 [(0, .ref pl), (1, .int p1), (2, .int p2), (3, .int p3)] := hl
  have hown : s.vm.findClass RX4 = some m.cls := hown
  refine lv_aload_n hx hb dX4_tryMove_0 rfl (lv_at hl 0 rfl) ?_
  refine lv_iload_n hx hb dX4_tryMove_1 rfl (lv_at hl 1 rfl) ?_
  refine lv_iload_n hx hb dX4_tryMove_2 rfl (lv_at hl 2 rfl) ?_
  refine lv_iload_n hx hb dX4_tryMove_3 rfl (lv_at hl 3 rfl) ?_
  refine kt_pi (wc := [(pl, .inr (4, [.ref la, .ref ru, .ref nw, .ref lo, .int 0]))]) [0] hP hD hS hA rfl (by decide) (fun hPc hDc => va_runV (As := [.int p1, .int p2, .int p3]) (rest := []) ⟨hx, hb, hml, hown, hts⟩ (f_X4_reason l D cI cZ cB H.size pl la ru nw lo p1 p2 p3 ) (cwV 3 hts gX4_tryMove_X4_reason rfl rfl rfl (by decide +kernel) ⟨Nat.le_of_ble_eq_true rfl, Nat.le_of_ble_eq_true rfl⟩) (kt_preV hN hK hPc hDc 0 (ci := 4) (q := (RX4, TX4, 5)) rfl rfl) rfl rfl hl.1 rfl (lv_room (Nat.le_of_ble_eq_true rfl)) dX4_tryMove_4 ⟨Nat.le_of_ble_eq_true rfl, Nat.le_of_ble_eq_true rfl⟩) (fun r_4 _ H locs hw_4 hP hS => ?_)
  subst hw_4
  refine lv_if_ne (tgt := 20) hx hb dX4_tryMove_7 (by decide) (fun c_7 => ?_) (fun c_7 => absurd c_7 (by decide))
  refine lv_iconst (v := (-1)) hx hb dX4_tryMove_20 (by decide) ?_
  exact kt_ri () hx hb hr hlk hS dX4_tryMove_21 hP hD (by rfl)

theorem iw_X10_go_X10 : ∀ w ∈ wsX100, w ∈ wsX10_go := by decide +kernel
set_option maxHeartbeats 4000000 in
set_option maxRecDepth 100000 in
theorem f_X10_go (l : Launch) (D : va_G) (cI cZ cB : ClassId) (sz : Nat) (kt : Nat) (to : Nat) (la : Nat) (ru : Nat) (pl : Nat) (ho : Nat) (so : Nat) (nw : Nat) (lo : Nat) (p1 : Int32) (p2 : Int32) (p3 : Int32) : kt_Mi l yX10_go wsX10_go { frames := 2, cells := 0, slots := 0, locals := 49 } D (kt_ty cI cZ cB) [.ref kt, .int p1, .int p2, .int p3] sz [(kt, .inr (10, [.ref to, .ref la, .ref ru, .ref pl, .ref ho, .ref so])), (pl, .inr (4, [.ref la, .ref ru, .ref nw, .ref lo, .int 0]))] (fun (r : Int32) (u : Unit) => r = (-1)) (fun (u : Unit) => [(kt, .inr (10, [.ref to, .ref la, .ref ru, .ref pl, .ref ho, .ref so])), (pl, .inr (4, [.ref la, .ref ru, .ref nw, .ref lo, .int 0]))]) 0 0 := by
  refine kt_Mi.of (cc := cX10_go) (maxL := 4) (ret := some .int) (by decide) rfl (Nat.le_of_ble_eq_true rfl) ?_
  intro p e s m below meth c A ls H hAt hP hD hS hl
  obtain ⟨hx, hb, hr, hml, hown, hts, hN, hK, hlk, hnm, hA⟩ := hAt
  have hl : lv_has ls 4 [(0, .ref kt), (1, .int p1), (2, .int p2), (3, .int p3)] := hl
  have hown : s.vm.findClass RX10 = some m.cls := hown
  refine lv_aload_n hx hb dX10_go_0 rfl (lv_at hl 0 rfl) ?_
  refine va_get (D := D) (ci := 10) (C := RX10) (T := TX10) (N := 6) hx hb hts iw_X10_go_X10 hown hK hP 0 rfl rfl 3 (by decide) (hts (.fieldLink RX10 37 "KingTable" "play" "LKingTable$Play;") (by decide +kernel)) (fun _ h9 => h9) rfl dX10_go_1 ?_
  refine lv_iload_n hx hb dX10_go_4 rfl (lv_at hl 1 rfl) ?_
  refine lv_iload_n hx hb dX10_go_5 rfl (lv_at hl 2 rfl) ?_
  refine lv_iload_n hx hb dX10_go_6 rfl (lv_at hl 3 rfl) ?_
  refine kt_pi (wc := [(pl, .inr (4, [.ref la, .ref ru, .ref nw, .ref lo, .int 0]))]) [1] hP hD hS hA rfl (by decide) (fun hPc hDc => va_runV (As := [.int p1, .int p2, .int p3]) (rest := []) ⟨hx, hb, hml, hown, hts⟩ (f_X4_tryMove l D cI cZ cB H.size pl la ru nw lo p1 p2 p3 ) (cwV 3 hts gX10_go_X4_tryMove rfl rfl rfl (by decide +kernel) ⟨Nat.le_of_ble_eq_true rfl, Nat.le_of_ble_eq_true rfl⟩) (kt_preV hN hK hPc hDc 0 (ci := 4) (q := (RX4, TX4, 5)) rfl rfl) rfl rfl hl.1 rfl (lv_room (Nat.le_of_ble_eq_true rfl)) dX10_go_7 ⟨Nat.le_of_ble_eq_true rfl, Nat.le_of_ble_eq_true rfl⟩) (fun r_7 _ H locs hw_7 hP hS => ?_)
  subst hw_7
  exact kt_ri () hx hb hr hlk hS dX10_go_10 hP hD (by rfl)

theorem iw_X10_why_X10 : ∀ w ∈ wsX100, w ∈ wsX10_why := by decide +kernel
set_option maxHeartbeats 4000000 in
set_option maxRecDepth 100000 in
theorem f_X10_why (l : Launch) (D : va_G) (cI cZ cB : ClassId) (sz : Nat) (kt : Nat) (to : Nat) (la : Nat) (ru : Nat) (pl : Nat) (ho : Nat) (so : Nat) (nw : Nat) (lo : Nat) (p1 : Int32) (p2 : Int32) (p3 : Int32) : kt_Mi l yX10_why wsX10_why { frames := 1, cells := 0, slots := 0, locals := 26 } D (kt_ty cI cZ cB) [.ref kt, .int p1, .int p2, .int p3] sz [(kt, .inr (10, [.ref to, .ref la, .ref ru, .ref pl, .ref ho, .ref so])), (pl, .inr (4, [.ref la, .ref ru, .ref nw, .ref lo, .int 0]))] (fun (r : Int32) (u : Unit) => r = 1) (fun (u : Unit) => [(kt, .inr (10, [.ref to, .ref la, .ref ru, .ref pl, .ref ho, .ref so])), (pl, .inr (4, [.ref la, .ref ru, .ref nw, .ref lo, .int 0]))]) 0 0 := by
  refine kt_Mi.of (cc := cX10_why) (maxL := 4) (ret := some .int) (by decide) rfl (Nat.le_of_ble_eq_true rfl) ?_
  intro p e s m below meth c A ls H hAt hP hD hS hl
  obtain ⟨hx, hb, hr, hml, hown, hts, hN, hK, hlk, hnm, hA⟩ := hAt
  have hl : lv_has ls 4 [(0, .ref kt), (1, .int p1), (2, .int p2), (3, .int p3)] := hl
  have hown : s.vm.findClass RX10 = some m.cls := hown
  refine lv_aload_n hx hb dX10_why_0 rfl (lv_at hl 0 rfl) ?_
  refine va_get (D := D) (ci := 10) (C := RX10) (T := TX10) (N := 6) hx hb hts iw_X10_why_X10 hown hK hP 0 rfl rfl 3 (by decide) (hts (.fieldLink RX10 37 "KingTable" "play" "LKingTable$Play;") (by decide +kernel)) (fun _ h9 => h9) rfl dX10_why_1 ?_
  refine lv_iload_n hx hb dX10_why_4 rfl (lv_at hl 1 rfl) ?_
  refine lv_iload_n hx hb dX10_why_5 rfl (lv_at hl 2 rfl) ?_
  refine lv_iload_n hx hb dX10_why_6 rfl (lv_at hl 3 rfl) ?_
  refine kt_pi (wc := [(pl, .inr (4, [.ref la, .ref ru, .ref nw, .ref lo, .int 0]))]) [1] hP hD hS hA rfl (by decide) (fun hPc hDc => va_runV (As := [.int p1, .int p2, .int p3]) (rest := []) ⟨hx, hb, hml, hown, hts⟩ (f_X4_reason l D cI cZ cB H.size pl la ru nw lo p1 p2 p3 ) (cwV 3 hts gX10_why_X4_reason rfl rfl rfl (by decide +kernel) ⟨Nat.le_of_ble_eq_true rfl, Nat.le_of_ble_eq_true rfl⟩) (kt_preV hN hK hPc hDc 0 (ci := 4) (q := (RX4, TX4, 5)) rfl rfl) rfl rfl hl.1 rfl (lv_room (Nat.le_of_ble_eq_true rfl)) dX10_why_7 ⟨Nat.le_of_ble_eq_true rfl, Nat.le_of_ble_eq_true rfl⟩) (fun r_7 _ H locs hw_7 hP hS => ?_)
  subst hw_7
  exact kt_ri () hx hb hr hlk hS dX10_why_10 hP hD (by rfl)

theorem iw_X10_piece_X10 : ∀ w ∈ wsX100, w ∈ wsX10_piece := by decide +kernel
set_option maxHeartbeats 4000000 in
set_option maxRecDepth 100000 in
theorem f_X10_piece (l : Launch) (D : va_G) (cI cZ cB : ClassId) (sz : Nat) (kt : Nat) (to : Nat) (la : Nat) (ru : Nat) (pl : Nat) (ho : Nat) (so : Nat) (gr : Nat) (rk : Nat) (rs : Nat) (rt : Nat) (rv : Nat) (p1 : Int32) (p2 : Int32) : kt_Mi l yX10_piece wsX10_piece { frames := 1, cells := 0, slots := 0, locals := 21 } D (kt_ty cI cZ cB) [.ref kt, .int p1, .int p2] sz [(kt, .inr (10, [.ref to, .ref la, .ref ru, .ref pl, .ref ho, .ref so])), (ru, .inr (6, [.ref la, .ref gr, .ref rk, .ref rs, .ref rt, .int 0, .int (-1), .ref rv, .int 0]))] (fun (r : Int32) (u : Unit) => r = (-1)) (fun (u : Unit) => [(kt, .inr (10, [.ref to, .ref la, .ref ru, .ref pl, .ref ho, .ref so])), (ru, .inr (6, [.ref la, .ref gr, .ref rk, .ref rs, .ref rt, .int 0, .int (-1), .ref rv, .int 0]))]) 0 0 := by
  refine kt_Mi.of (cc := cX10_piece) (maxL := 3) (ret := some .int) (by decide) rfl (Nat.le_of_ble_eq_true rfl) ?_
  intro p e s m below meth c A ls H hAt hP hD hS hl
  obtain ⟨hx, hb, hr, hml, hown, hts, hN, hK, hlk, hnm, hA⟩ := hAt
  have hl : lv_has ls 3 [(0, .ref kt), (1, .int p1), (2, .int p2)] := hl
  have hown : s.vm.findClass RX10 = some m.cls := hown
  refine lv_aload_n hx hb dX10_piece_0 rfl (lv_at hl 0 rfl) ?_
  refine va_get (D := D) (ci := 10) (C := RX10) (T := TX10) (N := 6) hx hb hts iw_X10_piece_X10 hown hK hP 0 rfl rfl 2 (by decide) (hts (.fieldLink RX10 28 "KingTable" "rules" "LKingTable$Rules;") (by decide +kernel)) (fun _ h9 => h9) rfl dX10_piece_1 ?_
  refine lv_iload_n hx hb dX10_piece_4 rfl (lv_at hl 1 rfl) ?_
  refine kt_pi (wc := [(ru, .inr (6, [.ref la, .ref gr, .ref rk, .ref rs, .ref rt, .int 0, .int (-1), .ref rv, .int 0]))]) [1] hP hD hS hA rfl (by decide) (fun hPc hDc => va_runV (As := [.int p1]) (rest := []) ⟨hx, hb, hml, hown, hts⟩ (f_X6_isPiece l D cI cZ cB H.size ru la gr rk rs rt rv p1 ) (cwV 1 hts gX10_piece_X6_isPiece rfl rfl rfl (by decide +kernel) ⟨Nat.le_of_ble_eq_true rfl, Nat.le_of_ble_eq_true rfl⟩) (kt_preV hN hK hPc hDc 0 (ci := 6) (q := (RX6, TX6, 9)) rfl rfl) rfl rfl hl.1 rfl (lv_room (Nat.le_of_ble_eq_true rfl)) dX10_piece_5 ⟨Nat.le_of_ble_eq_true rfl, Nat.le_of_ble_eq_true rfl⟩) (fun r_5 _ H locs hw_5 hP hS => ?_)
  subst hw_5
  refine lv_if_ne (tgt := 13) hx hb dX10_piece_8 (by decide) (fun c_8 => absurd c_8 (by decide)) (fun c_8 => ?_)
  refine lv_iconst (v := (-1)) hx hb dX10_piece_11 (by decide) ?_
  exact kt_ri () hx hb hr hlk hS dX10_piece_12 hP hD (by rfl)

set_option maxHeartbeats 4000000 in
set_option maxRecDepth 100000 in
theorem f_X8_holderOf (l : Launch) (D : va_G) (cI cZ cB : ClassId) (sz : Nat) (nw : Nat) (sf : Nat) (sh : Nat) (p0 : Int32) : kt_Mi l yX8_holderOf wsX8_holderOf { frames := 0, cells := 0, slots := 0, locals := 0 } D (kt_ty cI cZ cB) [.ref nw, .int p0] sz [(nw, .inr (8, [.ref sf, .ref sh, .int 0])), (sh, .inl (cI, 81, .inl (fun _ => (-1))))] (fun (r : Int32) (u : Unit) => r = (-1)) (fun (u : Unit) => [(nw, .inr (8, [.ref sf, .ref sh, .int 0])), (sh, .inl (cI, 81, .inl (fun _ => (-1))))]) 0 0 := by
  refine kt_Mi.of (cc := cX8_holderOf) (maxL := 2) (ret := some .int) (by decide) rfl (Nat.le_of_ble_eq_true rfl) ?_
  intro p e s m below meth c A ls H hAt hP hD hS hl
  obtain ⟨hx, hb, hr, hml, hown, hts, hN, hK, hlk, hnm, hA⟩ := hAt
  have hl : lv_has ls 2 [(0, .ref nw), (1, .int p0)] := hl
  have hown : s.vm.findClass RX8 = some m.cls := hown
  refine lv_iload_n hx hb dX8_holderOf_0 rfl (lv_at hl 1 rfl) ?_
  refine lv_if_lt (tgt := 19) hx hb dX8_holderOf_1 (by decide) (fun c_1 => ?_) (fun c_1 => ?_)
  · refine lv_iconst (v := (-1)) hx hb dX8_holderOf_19 (by decide) ?_
    exact kt_ri () hx hb hr hlk hS dX8_holderOf_20 hP hD (by rfl)
  · refine lv_iload_n hx hb dX8_holderOf_4 rfl (lv_at hl 1 rfl) ?_
    refine lv_bipush (v := 81) hx hb dX8_holderOf_5 (by decide) ?_
    refine lv_icmp_ge (tgt := 19) hx hb dX8_holderOf_7 (by decide) (fun c_7 => ?_) (fun c_7 => ?_)
    · refine lv_iconst (v := (-1)) hx hb dX8_holderOf_19 (by decide) ?_
      exact kt_ri () hx hb hr hlk hS dX8_holderOf_20 hP hD (by rfl)
    · refine lv_aload_n hx hb dX8_holderOf_10 rfl (lv_at hl 0 rfl) ?_
      refine va_get (D := D) (ci := 8) (C := RX8) (T := TX8) (N := 3) hx hb hts iw_X8_holderOf_X8 hown hK hP 0 rfl rfl 1 (by decide) (hts (.fieldLink RX8 15 "KingTable$Stand" "holders" "[I") (by decide +kernel)) (fun _ h9 => h9) rfl dX8_holderOf_11 ?_
      refine lv_iload_n hx hb dX8_holderOf_14 rfl (lv_at hl 1 rfl) ?_
      have hi_1 : vp_in p0 81 := by exact kt_in (by (simp only [kt_lt, kt_le, kt_eq, kt_c0 , kt_c1 , kt_c2 , kt_c3 , kt_c4 , kt_c8 , kt_c9 , kt_cm1 , kt_c81 , kt_c40 , kt_c7 , kt_c5 , kt_c6] at *; omega)) (by (simp only [kt_lt, kt_le, kt_eq, kt_c0 , kt_c1 , kt_c2 , kt_c3 , kt_c4 , kt_c8 , kt_c9 , kt_cm1 , kt_c81 , kt_c40 , kt_c7 , kt_c5 , kt_c6] at *; omega))
      refine va_iald hx hb hK hP 1 0 rfl rfl hi_1 dX8_holderOf_15 ?_
      refine W.eq (g2 := F0 m 16 ls [.int (-1)]) rfl ?_
      refine lv_goto (tgt := 20) hx hb dX8_holderOf_16 (by decide) ?_
      exact kt_ri () hx hb hr hlk hS dX8_holderOf_20 hP hD (by rfl)

set_option maxHeartbeats 4000000 in
set_option maxRecDepth 100000 in
theorem f_X8_fieldOf (l : Launch) (D : va_G) (cI cZ cB : ClassId) (sz : Nat) (nw : Nat) (sf : Nat) (sh : Nat) : kt_Mi l yX8_fieldOf wsX8_fieldOf { frames := 0, cells := 0, slots := 0, locals := 0 } D (kt_ty cI cZ cB) [.ref nw, .int (-1)] sz [(nw, .inr (8, [.ref sf, .ref sh, .int 0]))] (fun (r : Int32) (u : Unit) => r = (-1)) (fun (u : Unit) => [(nw, .inr (8, [.ref sf, .ref sh, .int 0]))]) 0 0 := by
  refine kt_Mi.of (cc := cX8_fieldOf) (maxL := 2) (ret := some .int) (by decide) rfl (Nat.le_of_ble_eq_true rfl) ?_
  intro p e s m below meth c A ls H hAt hP hD hS hl
  obtain ⟨hx, hb, hr, hml, hown, hts, hN, hK, hlk, hnm, hA⟩ := hAt
  have hl : lv_has ls 2 [(0, .ref nw), (1, .int (-1))] := hl
  have hown : s.vm.findClass RX8 = some m.cls := hown
  refine lv_iload_n hx hb dX8_fieldOf_0 rfl (lv_at hl 1 rfl) ?_
  refine lv_if_lt (tgt := 19) hx hb dX8_fieldOf_1 (by decide) (fun c_1 => ?_) (fun c_1 => absurd c_1 (by decide))
  refine lv_iconst (v := (-1)) hx hb dX8_fieldOf_19 (by decide) ?_
  exact kt_ri () hx hb hr hlk hS dX8_fieldOf_20 hP hD (by rfl)

theorem iw_X10_on_X10 : ∀ w ∈ wsX100, w ∈ wsX10_on := by decide +kernel
theorem iw_X10_on_X4 : ∀ w ∈ wsX40, w ∈ wsX10_on := by decide +kernel
set_option maxHeartbeats 4000000 in
set_option maxRecDepth 100000 in
theorem f_X10_on (l : Launch) (D : va_G) (cI cZ cB : ClassId) (sz : Nat) (kt : Nat) (to : Nat) (la : Nat) (ru : Nat) (pl : Nat) (ho : Nat) (so : Nat) (nw : Nat) (lo : Nat) (sf : Nat) (sh : Nat) (p1 : Int32) : kt_Mi l yX10_on wsX10_on { frames := 1, cells := 0, slots := 0, locals := 21 } D (kt_ty cI cZ cB) [.ref kt, .int p1] sz [(kt, .inr (10, [.ref to, .ref la, .ref ru, .ref pl, .ref ho, .ref so])), (pl, .inr (4, [.ref la, .ref ru, .ref nw, .ref lo, .int 0])), (nw, .inr (8, [.ref sf, .ref sh, .int 0])), (sh, .inl (cI, 81, .inl (fun _ => (-1))))] (fun (r : Int32) (u : Unit) => r = (-1)) (fun (u : Unit) => [(kt, .inr (10, [.ref to, .ref la, .ref ru, .ref pl, .ref ho, .ref so])), (pl, .inr (4, [.ref la, .ref ru, .ref nw, .ref lo, .int 0])), (nw, .inr (8, [.ref sf, .ref sh, .int 0])), (sh, .inl (cI, 81, .inl (fun _ => (-1))))]) 0 0 := by
  refine kt_Mi.of (cc := cX10_on) (maxL := 2) (ret := some .int) (by decide) rfl (Nat.le_of_ble_eq_true rfl) ?_
  intro p e s m below meth c A ls H hAt hP hD hS hl
  obtain ⟨hx, hb, hr, hml, hown, hts, hN, hK, hlk, hnm, hA⟩ := hAt
  have hl : lv_has ls 2 [(0, .ref kt), (1, .int p1)] := hl
  have hown : s.vm.findClass RX10 = some m.cls := hown
  refine lv_aload_n hx hb dX10_on_0 rfl (lv_at hl 0 rfl) ?_
  refine va_get (D := D) (ci := 10) (C := RX10) (T := TX10) (N := 6) hx hb hts iw_X10_on_X10 hown hK hP 0 rfl rfl 3 (by decide) (hts (.fieldLink RX10 37 "KingTable" "play" "LKingTable$Play;") (by decide +kernel)) (fun _ h9 => h9) rfl dX10_on_1 ?_
  refine va_getN (D := D) (ci := 4) (C := RX4) (T := TX4) (N := 5) hx hb hts iw_X10_on_X4 hown hK hP 1 rfl rfl 2 (by decide) (va_Nw.use (w := .fieldLinkNest RX10 139 "KingTable$Play" "now" "LKingTable$Stand;" "KingTable") rfl (hN _ (by decide +kernel))) (fun _ h9 => h9) rfl dX10_on_4 ?_
  refine lv_iload_n hx hb dX10_on_7 rfl (lv_at hl 1 rfl) ?_
  refine kt_pi (wc := [(nw, .inr (8, [.ref sf, .ref sh, .int 0])), (sh, .inl (cI, 81, .inl (fun _ => (-1))))]) [2, 3] hP hD hS hA rfl (by decide) (fun hPc hDc => va_runV (As := [.int p1]) (rest := []) ⟨hx, hb, hml, hown, hts⟩ (f_X8_holderOf l D cI cZ cB H.size nw sf sh p1 ) (cwV 1 hts gX10_on_X8_holderOf rfl rfl rfl (by decide +kernel) ⟨Nat.le_of_ble_eq_true rfl, Nat.le_of_ble_eq_true rfl⟩) (kt_preV hN hK hPc hDc 0 (ci := 8) (q := (RX8, TX8, 3)) rfl rfl) rfl rfl hl.1 rfl (lv_room (Nat.le_of_ble_eq_true rfl)) dX10_on_8 ⟨Nat.le_of_ble_eq_true rfl, Nat.le_of_ble_eq_true rfl⟩) (fun r_8 _ H locs hw_8 hP hS => ?_)
  subst hw_8
  exact kt_ri () hx hb hr hlk hS dX10_on_11 hP hD (by rfl)

theorem iw_X10_field_X10 : ∀ w ∈ wsX100, w ∈ wsX10_field := by decide +kernel
set_option maxHeartbeats 4000000 in
set_option maxRecDepth 100000 in
theorem f_X10_field (l : Launch) (D : va_G) (cI cZ cB : ClassId) (sz : Nat) (kt : Nat) (to : Nat) (la : Nat) (ru : Nat) (pl : Nat) (ho : Nat) (so : Nat) (nw : Nat) (lo : Nat) (p1 : Int32) : kt_Mi l yX10_field wsX10_field { frames := 1, cells := 0, slots := 0, locals := 20 } D (kt_ty cI cZ cB) [.ref kt, .int p1] sz [(kt, .inr (10, [.ref to, .ref la, .ref ru, .ref pl, .ref ho, .ref so])), (pl, .inr (4, [.ref la, .ref ru, .ref nw, .ref lo, .int 0]))] (fun (r : Int32) (u : Unit) => r = (-1)) (fun (u : Unit) => [(kt, .inr (10, [.ref to, .ref la, .ref ru, .ref pl, .ref ho, .ref so])), (pl, .inr (4, [.ref la, .ref ru, .ref nw, .ref lo, .int 0]))]) 0 0 := by
  refine kt_Mi.of (cc := cX10_field) (maxL := 2) (ret := some .int) (by decide) rfl (Nat.le_of_ble_eq_true rfl) ?_
  intro p e s m below meth c A ls H hAt hP hD hS hl
  obtain ⟨hx, hb, hr, hml, hown, hts, hN, hK, hlk, hnm, hA⟩ := hAt
  have hl : lv_has ls 2 [(0, .ref kt), (1, .int p1)] := hl
  have hown : s.vm.findClass RX10 = some m.cls := hown
  refine lv_aload_n hx hb dX10_field_0 rfl (lv_at hl 0 rfl) ?_
  refine va_get (D := D) (ci := 10) (C := RX10) (T := TX10) (N := 6) hx hb hts iw_X10_field_X10 hown hK hP 0 rfl rfl 3 (by decide) (hts (.fieldLink RX10 37 "KingTable" "play" "LKingTable$Play;") (by decide +kernel)) (fun _ h9 => h9) rfl dX10_field_1 ?_
  refine kt_pi (wc := [(pl, .inr (4, [.ref la, .ref ru, .ref nw, .ref lo, .int 0]))]) [1] hP hD hS hA rfl (by decide) (fun hPc hDc => va_runV (As := []) (rest := []) ⟨hx, hb, hml, hown, hts⟩ (f_X4_isThere l D cI cZ cB H.size pl la ru nw lo ) (cwV 0 hts gX10_field_X4_isThere rfl rfl rfl (by decide +kernel) ⟨Nat.le_of_ble_eq_true rfl, Nat.le_of_ble_eq_true rfl⟩) (kt_preV hN hK hPc hDc 0 (ci := 4) (q := (RX4, TX4, 5)) rfl rfl) rfl rfl hl.1 rfl (lv_room (Nat.le_of_ble_eq_true rfl)) dX10_field_4 ⟨Nat.le_of_ble_eq_true rfl, Nat.le_of_ble_eq_true rfl⟩) (fun r_4 _ H locs hw_4 hP hS => ?_)
  subst hw_4
  refine lv_if_eq (tgt := 25) hx hb dX10_field_7 (by decide) (fun c_7 => ?_) (fun c_7 => absurd c_7 (by decide))
  refine lv_iconst (v := (-1)) hx hb dX10_field_25 (by decide) ?_
  exact kt_ri () hx hb hr hlk hS dX10_field_26 hP hD (by rfl)

theorem iw_X10_took_X10 : ∀ w ∈ wsX100, w ∈ wsX10_took := by decide +kernel
theorem iw_X10_took_X4 : ∀ w ∈ wsX40, w ∈ wsX10_took := by decide +kernel
set_option maxHeartbeats 4000000 in
set_option maxRecDepth 100000 in
theorem f_X10_took (l : Launch) (D : va_G) (cI cZ cB : ClassId) (sz : Nat) (kt : Nat) (to : Nat) (la : Nat) (ru : Nat) (pl : Nat) (ho : Nat) (so : Nat) (nw : Nat) (lo : Nat) (l0 : Nat) (l1 : Nat) (l2 : Nat) (l3 : Nat) (l4 : Nat) (l5 : Nat) (l6 : Nat) (p1 : Int32) : kt_Mi l yX10_took wsX10_took { frames := 1, cells := 0, slots := 0, locals := 22 } D (kt_ty cI cZ cB) [.ref kt, .int p1] sz [(kt, .inr (10, [.ref to, .ref la, .ref ru, .ref pl, .ref ho, .ref so])), (pl, .inr (4, [.ref la, .ref ru, .ref nw, .ref lo, .int 0])), (lo, .inr (3, [.ref l0, .ref l1, .ref l2, .ref l3, .ref l4, .ref l5, .ref l6, .int 0, .int 0]))] (fun (r : Int32) (u : Unit) => r = (-1)) (fun (u : Unit) => [(kt, .inr (10, [.ref to, .ref la, .ref ru, .ref pl, .ref ho, .ref so])), (pl, .inr (4, [.ref la, .ref ru, .ref nw, .ref lo, .int 0])), (lo, .inr (3, [.ref l0, .ref l1, .ref l2, .ref l3, .ref l4, .ref l5, .ref l6, .int 0, .int 0]))]) 0 0 := by
  refine kt_Mi.of (cc := cX10_took) (maxL := 2) (ret := some .int) (by decide) rfl (Nat.le_of_ble_eq_true rfl) ?_
  intro p e s m below meth c A ls H hAt hP hD hS hl
  obtain ⟨hx, hb, hr, hml, hown, hts, hN, hK, hlk, hnm, hA⟩ := hAt
  have hl : lv_has ls 2 [(0, .ref kt), (1, .int p1)] := hl
  have hown : s.vm.findClass RX10 = some m.cls := hown
  refine lv_aload_n hx hb dX10_took_0 rfl (lv_at hl 0 rfl) ?_
  refine va_get (D := D) (ci := 10) (C := RX10) (T := TX10) (N := 6) hx hb hts iw_X10_took_X10 hown hK hP 0 rfl rfl 3 (by decide) (hts (.fieldLink RX10 37 "KingTable" "play" "LKingTable$Play;") (by decide +kernel)) (fun _ h9 => h9) rfl dX10_took_1 ?_
  refine va_getN (D := D) (ci := 4) (C := RX4) (T := TX4) (N := 5) hx hb hts iw_X10_took_X4 hown hK hP 1 rfl rfl 3 (by decide) (va_Nw.use (w := .fieldLinkNest RX10 111 "KingTable$Play" "log" "LKingTable$Log;" "KingTable") rfl (hN _ (by decide +kernel))) (fun _ h9 => h9) rfl dX10_took_4 ?_
  refine lv_iload_n hx hb dX10_took_7 rfl (lv_at hl 1 rfl) ?_
  refine kt_pi (wc := [(lo, .inr (3, [.ref l0, .ref l1, .ref l2, .ref l3, .ref l4, .ref l5, .ref l6, .int 0, .int 0]))]) [2] hP hD hS hA rfl (by decide) (fun hPc hDc => va_runV (As := [.int p1]) (rest := []) ⟨hx, hb, hml, hown, hts⟩ (f_X3_latestVictim l D cI cZ cB H.size lo l0 l1 l2 l3 l4 l5 l6 p1 ) (cwV 1 hts gX10_took_X3_latestVictim rfl rfl rfl (by decide +kernel) ⟨Nat.le_of_ble_eq_true rfl, Nat.le_of_ble_eq_true rfl⟩) (kt_preV hN hK hPc hDc 0 (ci := 3) (q := (RX3, TX3, 9)) rfl rfl) rfl rfl hl.1 rfl (lv_room (Nat.le_of_ble_eq_true rfl)) dX10_took_8 ⟨Nat.le_of_ble_eq_true rfl, Nat.le_of_ble_eq_true rfl⟩) (fun r_8 _ H locs hw_8 hP hS => ?_)
  subst hw_8
  exact kt_ri () hx hb hr hlk hS dX10_took_11 hP hD (by rfl)

theorem iw_X5_holds_X5 : ∀ w ∈ wsX50, w ∈ wsX5_holds := by decide +kernel
theorem iw_X5_holds_X6 : ∀ w ∈ wsX60, w ∈ wsX5_holds := by decide +kernel
set_option maxHeartbeats 4000000 in
set_option maxRecDepth 100000 in
theorem f_X5_holds (l : Launch) (D : va_G) (cI cZ cB : ClassId) (sz : Nat) (ho : Nat) (nw : Nat) (ru : Nat) (la : Nat) (sf : Nat) (sh : Nat) (gr : Nat) (rk : Nat) (rs : Nat) (rt : Nat) (rv : Nat) (ora : Nat) (osa : Nat) : kt_Mi l yX5_holds wsX5_holds { frames := 1, cells := 0, slots := 0, locals := 21 } D (kt_ty cI cZ cB) [.ref ho, .ref nw, .int (-1)] sz [(ho, .inr (5, [.ref ru, .ref ora, .ref osa])), (nw, .inr (8, [.ref sf, .ref sh, .int 0])), (ru, .inr (6, [.ref la, .ref gr, .ref rk, .ref rs, .ref rt, .int 0, .int (-1), .ref rv, .int 0]))] (fun (r : Int32) (u : Unit) => r = 0) (fun (u : Unit) => [(ho, .inr (5, [.ref ru, .ref ora, .ref osa])), (nw, .inr (8, [.ref sf, .ref sh, .int 0])), (ru, .inr (6, [.ref la, .ref gr, .ref rk, .ref rs, .ref rt, .int 0, .int (-1), .ref rv, .int 0]))]) 0 0 := by
  refine kt_Mi.of (cc := cX5_holds) (maxL := 8) (ret := some .boolean) (by decide) rfl (Nat.le_of_ble_eq_true rfl) ?_
  intro p e s m below meth c A ls H hAt hP hD hS hl
  obtain ⟨hx, hb, hr, hml, hown, hts, hN, hK, hlk, hnm, hA⟩ := hAt
  have hl : lv_has ls 8 [(0, .ref ho), (1, .ref nw), (2, .int (-1))] := hl
  have hown : s.vm.findClass RX5 = some m.cls := hown
  refine lv_aload_n hx hb dX5_holds_0 rfl (lv_at hl 1 rfl) ?_
  refine lv_aload_n hx hb dX5_holds_1 rfl (lv_at hl 0 rfl) ?_
  refine va_get (D := D) (ci := 5) (C := RX5) (T := TX5) (N := 3) hx hb hts iw_X5_holds_X5 hown hK hP 0 rfl rfl 0 (by decide) (hts (.fieldLink RX5 19 "KingTable$Ring" "rules" "LKingTable$Rules;") (by decide +kernel)) (fun _ h9 => h9) rfl dX5_holds_2 ?_
  refine va_getN (D := D) (ci := 6) (C := RX6) (T := TX6) (N := 9) hx hb hts iw_X5_holds_X6 hown hK hP 2 rfl rfl 6 (by decide) (va_Nw.use (w := .fieldLinkNest RX5 23 "KingTable$Rules" "king" "I" "KingTable") rfl (hN _ (by decide +kernel))) (fun _ h9 => h9) rfl dX5_holds_5 ?_
  refine kt_pi (wc := [(nw, .inr (8, [.ref sf, .ref sh, .int 0]))]) [1] hP hD hS hA rfl (by decide) (fun hPc hDc => va_runV (As := [.int (-1)]) (rest := []) ⟨hx, hb, hml, hown, hts⟩ (f_X8_fieldOf l D cI cZ cB H.size nw sf sh ) (cwV 1 hts gX5_holds_X8_fieldOf rfl rfl rfl (by decide +kernel) ⟨Nat.le_of_ble_eq_true rfl, Nat.le_of_ble_eq_true rfl⟩) (kt_preV hN hK hPc hDc 0 (ci := 8) (q := (RX8, TX8, 3)) rfl rfl) rfl rfl hl.1 rfl (lv_room (Nat.le_of_ble_eq_true rfl)) dX5_holds_8 ⟨Nat.le_of_ble_eq_true rfl, Nat.le_of_ble_eq_true rfl⟩) (fun r_8 _ H locs hw_8 hP hS => ?_)
  subst hw_8
  refine lv_istore_n (lv' := [(3, .int (-1)), (0, .ref ho), (1, .ref nw), (2, .int (-1))]) hx hb dX5_holds_11 rfl hl (by decide) rfl (fun ls hl => ?_)
  refine lv_iload_n hx hb dX5_holds_12 rfl (lv_at hl 0 rfl) ?_
  refine lv_if_lt (tgt := 33) hx hb dX5_holds_13 (by decide) (fun c_13 => ?_) (fun c_13 => absurd c_13 (by decide))
  refine lv_iconst (v := 0) hx hb dX5_holds_33 (by decide) ?_
  exact kt_rz () hx hb hr hlk hS dX5_holds_34 hP hD (by rfl) rfl

theorem iw_X10_ring_X10 : ∀ w ∈ wsX100, w ∈ wsX10_ring := by decide +kernel
theorem iw_X10_ring_X4 : ∀ w ∈ wsX40, w ∈ wsX10_ring := by decide +kernel
set_option maxHeartbeats 4000000 in
set_option maxRecDepth 100000 in
theorem f_X10_ring (l : Launch) (D : va_G) (cI cZ cB : ClassId) (sz : Nat) (kt : Nat) (to : Nat) (la : Nat) (ru : Nat) (pl : Nat) (ho : Nat) (so : Nat) (nw : Nat) (lo : Nat) (sf : Nat) (sh : Nat) (gr : Nat) (rk : Nat) (rs : Nat) (rt : Nat) (rv : Nat) (ora : Nat) (osa : Nat) : kt_Mi l yX10_ring wsX10_ring { frames := 2, cells := 0, slots := 0, locals := 48 } D (kt_ty cI cZ cB) [.ref kt] sz [(kt, .inr (10, [.ref to, .ref la, .ref ru, .ref pl, .ref ho, .ref so])), (pl, .inr (4, [.ref la, .ref ru, .ref nw, .ref lo, .int 0])), (nw, .inr (8, [.ref sf, .ref sh, .int 0])), (ru, .inr (6, [.ref la, .ref gr, .ref rk, .ref rs, .ref rt, .int 0, .int (-1), .ref rv, .int 0])), (ho, .inr (5, [.ref ru, .ref ora, .ref osa]))] (fun (r : Int32) (u : Unit) => r = 0) (fun (u : Unit) => [(kt, .inr (10, [.ref to, .ref la, .ref ru, .ref pl, .ref ho, .ref so])), (pl, .inr (4, [.ref la, .ref ru, .ref nw, .ref lo, .int 0])), (nw, .inr (8, [.ref sf, .ref sh, .int 0])), (ru, .inr (6, [.ref la, .ref gr, .ref rk, .ref rs, .ref rt, .int 0, .int (-1), .ref rv, .int 0])), (ho, .inr (5, [.ref ru, .ref ora, .ref osa]))]) 0 0 := by
  refine kt_Mi.of (cc := cX10_ring) (maxL := 1) (ret := some .boolean) (by decide) rfl (Nat.le_of_ble_eq_true rfl) ?_
  intro p e s m below meth c A ls H hAt hP hD hS hl
  obtain ⟨hx, hb, hr, hml, hown, hts, hN, hK, hlk, hnm, hA⟩ := hAt
  have hl : lv_has ls 1 [(0, .ref kt)] := hl
  have hown : s.vm.findClass RX10 = some m.cls := hown
  refine lv_aload_n hx hb dX10_ring_0 rfl (lv_at hl 0 rfl) ?_
  refine va_get (D := D) (ci := 10) (C := RX10) (T := TX10) (N := 6) hx hb hts iw_X10_ring_X10 hown hK hP 0 rfl rfl 4 (by decide) (hts (.fieldLink RX10 46 "KingTable" "hold" "LKingTable$Ring;") (by decide +kernel)) (fun _ h9 => h9) rfl dX10_ring_1 ?_
  refine lv_aload_n hx hb dX10_ring_4 rfl (lv_at hl 0 rfl) ?_
  refine va_get (D := D) (ci := 10) (C := RX10) (T := TX10) (N := 6) hx hb hts iw_X10_ring_X10 hown hK hP 0 rfl rfl 3 (by decide) (hts (.fieldLink RX10 37 "KingTable" "play" "LKingTable$Play;") (by decide +kernel)) (fun _ h9 => h9) rfl dX10_ring_5 ?_
  refine va_getN (D := D) (ci := 4) (C := RX4) (T := TX4) (N := 5) hx hb hts iw_X10_ring_X4 hown hK hP 1 rfl rfl 2 (by decide) (va_Nw.use (w := .fieldLinkNest RX10 139 "KingTable$Play" "now" "LKingTable$Stand;" "KingTable") rfl (hN _ (by decide +kernel))) (fun _ h9 => h9) rfl dX10_ring_8 ?_
  refine lv_iconst (v := (-1)) hx hb dX10_ring_11 (by decide) ?_
  refine kt_pi (wc := [(ho, .inr (5, [.ref ru, .ref ora, .ref osa])), (nw, .inr (8, [.ref sf, .ref sh, .int 0])), (ru, .inr (6, [.ref la, .ref gr, .ref rk, .ref rs, .ref rt, .int 0, .int (-1), .ref rv, .int 0]))]) [4, 2, 3] hP hD hS hA rfl (by decide) (fun hPc hDc => va_runV (As := [.ref nw, .int (-1)]) (rest := []) ⟨hx, hb, hml, hown, hts⟩ (f_X5_holds l D cI cZ cB H.size ho nw ru la sf sh gr rk rs rt rv ora osa ) (cwV 2 hts gX10_ring_X5_holds rfl rfl rfl (by decide +kernel) ⟨Nat.le_of_ble_eq_true rfl, Nat.le_of_ble_eq_true rfl⟩) (kt_preV hN hK hPc hDc 0 (ci := 5) (q := (RX5, TX5, 3)) rfl rfl) rfl rfl hl.1 rfl (lv_room (Nat.le_of_ble_eq_true rfl)) dX10_ring_12 ⟨Nat.le_of_ble_eq_true rfl, Nat.le_of_ble_eq_true rfl⟩) (fun r_12 _ H locs hw_12 hP hS => ?_)
  subst hw_12
  exact kt_rz () hx hb hr hlk hS dX10_ring_15 hP hD (by rfl) rfl

theorem iw_X10_needed_X10 : ∀ w ∈ wsX100, w ∈ wsX10_needed := by decide +kernel
set_option maxHeartbeats 4000000 in
set_option maxRecDepth 100000 in
theorem f_X10_needed (l : Launch) (D : va_G) (cI cZ cB : ClassId) (sz : Nat) (kt : Nat) (to : Nat) (la : Nat) (ru : Nat) (pl : Nat) (ho : Nat) (so : Nat) (gr : Nat) (rk : Nat) (rs : Nat) (rt : Nat) (rv : Nat) (p1 : Int32) : kt_Mi l yX10_needed wsX10_needed { frames := 1, cells := 0, slots := 0, locals := 21 } D (kt_ty cI cZ cB) [.ref kt, .int p1] sz [(kt, .inr (10, [.ref to, .ref la, .ref ru, .ref pl, .ref ho, .ref so])), (ru, .inr (6, [.ref la, .ref gr, .ref rk, .ref rs, .ref rt, .int 0, .int (-1), .ref rv, .int 0]))] (fun (r : Int32) (u : Unit) => r = 0) (fun (u : Unit) => [(kt, .inr (10, [.ref to, .ref la, .ref ru, .ref pl, .ref ho, .ref so])), (ru, .inr (6, [.ref la, .ref gr, .ref rk, .ref rs, .ref rt, .int 0, .int (-1), .ref rv, .int 0]))]) 0 0 := by
  refine kt_Mi.of (cc := cX10_needed) (maxL := 2) (ret := some .boolean) (by decide) rfl (Nat.le_of_ble_eq_true rfl) ?_
  intro p e s m below meth c A ls H hAt hP hD hS hl
  obtain ⟨hx, hb, hr, hml, hown, hts, hN, hK, hlk, hnm, hA⟩ := hAt
  have hl : lv_has ls 2 [(0, .ref kt), (1, .int p1)] := hl
  have hown : s.vm.findClass RX10 = some m.cls := hown
  refine lv_aload_n hx hb dX10_needed_0 rfl (lv_at hl 0 rfl) ?_
  refine va_get (D := D) (ci := 10) (C := RX10) (T := TX10) (N := 6) hx hb hts iw_X10_needed_X10 hown hK hP 0 rfl rfl 2 (by decide) (hts (.fieldLink RX10 28 "KingTable" "rules" "LKingTable$Rules;") (by decide +kernel)) (fun _ h9 => h9) rfl dX10_needed_1 ?_
  refine lv_iload_n hx hb dX10_needed_4 rfl (lv_at hl 1 rfl) ?_
  refine kt_pi (wc := [(ru, .inr (6, [.ref la, .ref gr, .ref rk, .ref rs, .ref rt, .int 0, .int (-1), .ref rv, .int 0]))]) [1] hP hD hS hA rfl (by decide) (fun hPc hDc => va_runV (As := [.int p1]) (rest := []) ⟨hx, hb, hml, hown, hts⟩ (f_X6_isPiece l D cI cZ cB H.size ru la gr rk rs rt rv p1 ) (cwV 1 hts gX10_needed_X6_isPiece rfl rfl rfl (by decide +kernel) ⟨Nat.le_of_ble_eq_true rfl, Nat.le_of_ble_eq_true rfl⟩) (kt_preV hN hK hPc hDc 0 (ci := 6) (q := (RX6, TX6, 9)) rfl rfl) rfl rfl hl.1 rfl (lv_room (Nat.le_of_ble_eq_true rfl)) dX10_needed_5 ⟨Nat.le_of_ble_eq_true rfl, Nat.le_of_ble_eq_true rfl⟩) (fun r_5 _ H locs hw_5 hP hS => ?_)
  subst hw_5
  refine lv_if_eq (tgt := 64) hx hb dX10_needed_8 (by decide) (fun c_8 => ?_) (fun c_8 => absurd c_8 (by decide))
  refine lv_iconst (v := 0) hx hb dX10_needed_64 (by decide) ?_
  exact kt_rz () hx hb hr hlk hS dX10_needed_65 hP hD (by rfl) rfl

theorem iw_X4_takeBack_X4 : ∀ w ∈ wsX40, w ∈ wsX4_takeBack := by decide +kernel
theorem iw_X4_takeBack_X3 : ∀ w ∈ wsX30, w ∈ wsX4_takeBack := by decide +kernel
set_option maxHeartbeats 4000000 in
set_option maxRecDepth 100000 in
theorem f_X4_takeBack (l : Launch) (D : va_G) (cI cZ cB : ClassId) (sz : Nat) (pl : Nat) (la : Nat) (ru : Nat) (nw : Nat) (lo : Nat) (l0 : Nat) (l1 : Nat) (l2 : Nat) (l3 : Nat) (l4 : Nat) (l5 : Nat) (l6 : Nat) : kt_Mi l yX4_takeBack wsX4_takeBack { frames := 0, cells := 0, slots := 0, locals := 0 } D (kt_ty cI cZ cB) [.ref pl] sz [(pl, .inr (4, [.ref la, .ref ru, .ref nw, .ref lo, .int 0])), (lo, .inr (3, [.ref l0, .ref l1, .ref l2, .ref l3, .ref l4, .ref l5, .ref l6, .int 0, .int 0]))] (fun (r : Int32) (u : Unit) => r = 0) (fun (u : Unit) => [(pl, .inr (4, [.ref la, .ref ru, .ref nw, .ref lo, .int 0])), (lo, .inr (3, [.ref l0, .ref l1, .ref l2, .ref l3, .ref l4, .ref l5, .ref l6, .int 0, .int 0]))]) 0 0 := by
  refine kt_Mi.of (cc := cX4_takeBack) (maxL := 1) (ret := some .boolean) (by decide) rfl (Nat.le_of_ble_eq_true rfl) ?_
  intro p e s m below meth c A ls H hAt hP hD hS hl
  obtain ⟨hx, hb, hr, hml, hown, hts, hN, hK, hlk, hnm, hA⟩ := hAt
  have hl : lv_has ls 1 [(0, .ref pl)] := hl
  have hown : s.vm.findClass RX4 = some m.cls := hown
  refine lv_aload_n hx hb dX4_takeBack_0 rfl (lv_at hl 0 rfl) ?_
  refine va_get (D := D) (ci := 4) (C := RX4) (T := TX4) (N := 5) hx hb hts iw_X4_takeBack_X4 hown hK hP 0 rfl rfl 3 (by decide) (hts (.fieldLink RX4 21 "KingTable$Play" "log" "LKingTable$Log;") (by decide +kernel)) (fun _ h9 => h9) rfl dX4_takeBack_1 ?_
  refine va_getN (D := D) (ci := 3) (C := RX3) (T := TX3) (N := 9) hx hb hts iw_X4_takeBack_X3 hown hK hP 1 rfl rfl 7 (by decide) (va_Nw.use (w := .fieldLinkNest RX4 159 "KingTable$Log" "done" "I" "KingTable") rfl (hN _ (by decide +kernel))) (fun _ h9 => h9) rfl dX4_takeBack_4 ?_
  refine lv_if_ne (tgt := 12) hx hb dX4_takeBack_7 (by decide) (fun c_7 => absurd c_7 (by decide)) (fun c_7 => ?_)
  refine lv_iconst (v := 0) hx hb dX4_takeBack_10 (by decide) ?_
  exact kt_rz () hx hb hr hlk hS dX4_takeBack_11 hP hD (by rfl) rfl

theorem iw_X4_redo_X4 : ∀ w ∈ wsX40, w ∈ wsX4_redo := by decide +kernel
theorem iw_X4_redo_X3 : ∀ w ∈ wsX30, w ∈ wsX4_redo := by decide +kernel
set_option maxHeartbeats 4000000 in
set_option maxRecDepth 100000 in
theorem f_X4_redo (l : Launch) (D : va_G) (cI cZ cB : ClassId) (sz : Nat) (pl : Nat) (la : Nat) (ru : Nat) (nw : Nat) (lo : Nat) (l0 : Nat) (l1 : Nat) (l2 : Nat) (l3 : Nat) (l4 : Nat) (l5 : Nat) (l6 : Nat) : kt_Mi l yX4_redo wsX4_redo { frames := 0, cells := 0, slots := 0, locals := 0 } D (kt_ty cI cZ cB) [.ref pl] sz [(pl, .inr (4, [.ref la, .ref ru, .ref nw, .ref lo, .int 0])), (lo, .inr (3, [.ref l0, .ref l1, .ref l2, .ref l3, .ref l4, .ref l5, .ref l6, .int 0, .int 0]))] (fun (r : Int32) (u : Unit) => r = 0) (fun (u : Unit) => [(pl, .inr (4, [.ref la, .ref ru, .ref nw, .ref lo, .int 0])), (lo, .inr (3, [.ref l0, .ref l1, .ref l2, .ref l3, .ref l4, .ref l5, .ref l6, .int 0, .int 0]))]) 0 0 := by
  refine kt_Mi.of (cc := cX4_redo) (maxL := 1) (ret := some .boolean) (by decide) rfl (Nat.le_of_ble_eq_true rfl) ?_
  intro p e s m below meth c A ls H hAt hP hD hS hl
  obtain ⟨hx, hb, hr, hml, hown, hts, hN, hK, hlk, hnm, hA⟩ := hAt
  have hl : lv_has ls 1 [(0, .ref pl)] := hl
  have hown : s.vm.findClass RX4 = some m.cls := hown
  refine lv_aload_n hx hb dX4_redo_0 rfl (lv_at hl 0 rfl) ?_
  refine va_get (D := D) (ci := 4) (C := RX4) (T := TX4) (N := 5) hx hb hts iw_X4_redo_X4 hown hK hP 0 rfl rfl 3 (by decide) (hts (.fieldLink RX4 21 "KingTable$Play" "log" "LKingTable$Log;") (by decide +kernel)) (fun _ h9 => h9) rfl dX4_redo_1 ?_
  refine va_getN (D := D) (ci := 3) (C := RX3) (T := TX3) (N := 9) hx hb hts iw_X4_redo_X3 hown hK hP 1 rfl rfl 7 (by decide) (va_Nw.use (w := .fieldLinkNest RX4 159 "KingTable$Log" "done" "I" "KingTable") rfl (hN _ (by decide +kernel))) (fun _ h9 => h9) rfl dX4_redo_4 ?_
  refine lv_aload_n hx hb dX4_redo_7 rfl (lv_at hl 0 rfl) ?_
  refine va_get (D := D) (ci := 4) (C := RX4) (T := TX4) (N := 5) hx hb hts iw_X4_redo_X4 hown hK hP 0 rfl rfl 3 (by decide) (hts (.fieldLink RX4 21 "KingTable$Play" "log" "LKingTable$Log;") (by decide +kernel)) (fun _ h9 => h9) rfl dX4_redo_8 ?_
  refine va_getN (D := D) (ci := 3) (C := RX3) (T := TX3) (N := 9) hx hb hts iw_X4_redo_X3 hown hK hP 1 rfl rfl 8 (by decide) (va_Nw.use (w := .fieldLinkNest RX4 162 "KingTable$Log" "known" "I" "KingTable") rfl (hN _ (by decide +kernel))) (fun _ h9 => h9) rfl dX4_redo_11 ?_
  refine lv_icmp_ge (tgt := 27) hx hb dX4_redo_14 (by decide) (fun c_14 => ?_) (fun c_14 => absurd c_14 (by decide))
  refine lv_iconst (v := 0) hx hb dX4_redo_27 (by decide) ?_
  exact kt_rz () hx hb hr hlk hS dX4_redo_28 hP hD (by rfl) rfl

theorem iw_X10_back_X10 : ∀ w ∈ wsX100, w ∈ wsX10_back := by decide +kernel
set_option maxHeartbeats 4000000 in
set_option maxRecDepth 100000 in
theorem f_X10_back (l : Launch) (D : va_G) (cI cZ cB : ClassId) (sz : Nat) (kt : Nat) (to : Nat) (la : Nat) (ru : Nat) (pl : Nat) (ho : Nat) (so : Nat) (nw : Nat) (lo : Nat) (l0 : Nat) (l1 : Nat) (l2 : Nat) (l3 : Nat) (l4 : Nat) (l5 : Nat) (l6 : Nat) : kt_Mi l yX10_back wsX10_back { frames := 1, cells := 0, slots := 0, locals := 20 } D (kt_ty cI cZ cB) [.ref kt] sz [(kt, .inr (10, [.ref to, .ref la, .ref ru, .ref pl, .ref ho, .ref so])), (pl, .inr (4, [.ref la, .ref ru, .ref nw, .ref lo, .int 0])), (lo, .inr (3, [.ref l0, .ref l1, .ref l2, .ref l3, .ref l4, .ref l5, .ref l6, .int 0, .int 0]))] (fun (r : Int32) (u : Unit) => r = 0) (fun (u : Unit) => [(kt, .inr (10, [.ref to, .ref la, .ref ru, .ref pl, .ref ho, .ref so])), (pl, .inr (4, [.ref la, .ref ru, .ref nw, .ref lo, .int 0])), (lo, .inr (3, [.ref l0, .ref l1, .ref l2, .ref l3, .ref l4, .ref l5, .ref l6, .int 0, .int 0]))]) 0 0 := by
  refine kt_Mi.of (cc := cX10_back) (maxL := 1) (ret := some .boolean) (by decide) rfl (Nat.le_of_ble_eq_true rfl) ?_
  intro p e s m below meth c A ls H hAt hP hD hS hl
  obtain ⟨hx, hb, hr, hml, hown, hts, hN, hK, hlk, hnm, hA⟩ := hAt
  have hl : lv_has ls 1 [(0, .ref kt)] := hl
  have hown : s.vm.findClass RX10 = some m.cls := hown
  refine lv_aload_n hx hb dX10_back_0 rfl (lv_at hl 0 rfl) ?_
  refine va_get (D := D) (ci := 10) (C := RX10) (T := TX10) (N := 6) hx hb hts iw_X10_back_X10 hown hK hP 0 rfl rfl 3 (by decide) (hts (.fieldLink RX10 37 "KingTable" "play" "LKingTable$Play;") (by decide +kernel)) (fun _ h9 => h9) rfl dX10_back_1 ?_
  refine kt_pi (wc := [(pl, .inr (4, [.ref la, .ref ru, .ref nw, .ref lo, .int 0])), (lo, .inr (3, [.ref l0, .ref l1, .ref l2, .ref l3, .ref l4, .ref l5, .ref l6, .int 0, .int 0]))]) [1, 2] hP hD hS hA rfl (by decide) (fun hPc hDc => va_runV (As := []) (rest := []) ⟨hx, hb, hml, hown, hts⟩ (f_X4_takeBack l D cI cZ cB H.size pl la ru nw lo l0 l1 l2 l3 l4 l5 l6 ) (cwV 0 hts gX10_back_X4_takeBack rfl rfl rfl (by decide +kernel) ⟨Nat.le_of_ble_eq_true rfl, Nat.le_of_ble_eq_true rfl⟩) (kt_preV hN hK hPc hDc 0 (ci := 4) (q := (RX4, TX4, 5)) rfl rfl) rfl rfl hl.1 rfl (lv_room (Nat.le_of_ble_eq_true rfl)) dX10_back_4 ⟨Nat.le_of_ble_eq_true rfl, Nat.le_of_ble_eq_true rfl⟩) (fun r_4 _ H locs hw_4 hP hS => ?_)
  subst hw_4
  exact kt_rz () hx hb hr hlk hS dX10_back_7 hP hD (by rfl) rfl

theorem iw_X10_again_X10 : ∀ w ∈ wsX100, w ∈ wsX10_again := by decide +kernel
set_option maxHeartbeats 4000000 in
set_option maxRecDepth 100000 in
theorem f_X10_again (l : Launch) (D : va_G) (cI cZ cB : ClassId) (sz : Nat) (kt : Nat) (to : Nat) (la : Nat) (ru : Nat) (pl : Nat) (ho : Nat) (so : Nat) (nw : Nat) (lo : Nat) (l0 : Nat) (l1 : Nat) (l2 : Nat) (l3 : Nat) (l4 : Nat) (l5 : Nat) (l6 : Nat) : kt_Mi l yX10_again wsX10_again { frames := 1, cells := 0, slots := 0, locals := 20 } D (kt_ty cI cZ cB) [.ref kt] sz [(kt, .inr (10, [.ref to, .ref la, .ref ru, .ref pl, .ref ho, .ref so])), (pl, .inr (4, [.ref la, .ref ru, .ref nw, .ref lo, .int 0])), (lo, .inr (3, [.ref l0, .ref l1, .ref l2, .ref l3, .ref l4, .ref l5, .ref l6, .int 0, .int 0]))] (fun (r : Int32) (u : Unit) => r = 0) (fun (u : Unit) => [(kt, .inr (10, [.ref to, .ref la, .ref ru, .ref pl, .ref ho, .ref so])), (pl, .inr (4, [.ref la, .ref ru, .ref nw, .ref lo, .int 0])), (lo, .inr (3, [.ref l0, .ref l1, .ref l2, .ref l3, .ref l4, .ref l5, .ref l6, .int 0, .int 0]))]) 0 0 := by
  refine kt_Mi.of (cc := cX10_again) (maxL := 1) (ret := some .boolean) (by decide) rfl (Nat.le_of_ble_eq_true rfl) ?_
  intro p e s m below meth c A ls H hAt hP hD hS hl
  obtain ⟨hx, hb, hr, hml, hown, hts, hN, hK, hlk, hnm, hA⟩ := hAt
  have hl : lv_has ls 1 [(0, .ref kt)] := hl
  have hown : s.vm.findClass RX10 = some m.cls := hown
  refine lv_aload_n hx hb dX10_again_0 rfl (lv_at hl 0 rfl) ?_
  refine va_get (D := D) (ci := 10) (C := RX10) (T := TX10) (N := 6) hx hb hts iw_X10_again_X10 hown hK hP 0 rfl rfl 3 (by decide) (hts (.fieldLink RX10 37 "KingTable" "play" "LKingTable$Play;") (by decide +kernel)) (fun _ h9 => h9) rfl dX10_again_1 ?_
  refine kt_pi (wc := [(pl, .inr (4, [.ref la, .ref ru, .ref nw, .ref lo, .int 0])), (lo, .inr (3, [.ref l0, .ref l1, .ref l2, .ref l3, .ref l4, .ref l5, .ref l6, .int 0, .int 0]))]) [1, 2] hP hD hS hA rfl (by decide) (fun hPc hDc => va_runV (As := []) (rest := []) ⟨hx, hb, hml, hown, hts⟩ (f_X4_redo l D cI cZ cB H.size pl la ru nw lo l0 l1 l2 l3 l4 l5 l6 ) (cwV 0 hts gX10_again_X4_redo rfl rfl rfl (by decide +kernel) ⟨Nat.le_of_ble_eq_true rfl, Nat.le_of_ble_eq_true rfl⟩) (kt_preV hN hK hPc hDc 0 (ci := 4) (q := (RX4, TX4, 5)) rfl rfl) rfl rfl hl.1 rfl (lv_room (Nat.le_of_ble_eq_true rfl)) dX10_again_4 ⟨Nat.le_of_ble_eq_true rfl, Nat.le_of_ble_eq_true rfl⟩) (fun r_4 _ H locs hw_4 hP hS => ?_)
  subst hw_4
  exact kt_rz () hx hb hr hlk hS dX10_again_7 hP hD (by rfl) rfl

theorem iw_X10_solve_X10 : ∀ w ∈ wsX100, w ∈ wsX10_solve := by decide +kernel
set_option maxHeartbeats 4000000 in
set_option maxRecDepth 100000 in
theorem f_X10_solve (l : Launch) (D : va_G) (cI cZ cB : ClassId) (sz : Nat) (kt : Nat) (to : Nat) (la : Nat) (ru : Nat) (pl : Nat) (ho : Nat) (so : Nat) (nw : Nat) (lo : Nat) : kt_Mi l yX10_solve wsX10_solve { frames := 1, cells := 0, slots := 0, locals := 20 } D (kt_ty cI cZ cB) [.ref kt] sz [(kt, .inr (10, [.ref to, .ref la, .ref ru, .ref pl, .ref ho, .ref so])), (pl, .inr (4, [.ref la, .ref ru, .ref nw, .ref lo, .int 0]))] (fun (r : Int32) (u : Unit) => r = (-1)) (fun (u : Unit) => [(kt, .inr (10, [.ref to, .ref la, .ref ru, .ref pl, .ref ho, .ref so])), (pl, .inr (4, [.ref la, .ref ru, .ref nw, .ref lo, .int 0]))]) 0 0 := by
  refine kt_Mi.of (cc := cX10_solve) (maxL := 1) (ret := some .int) (by decide) rfl (Nat.le_of_ble_eq_true rfl) ?_
  intro p e s m below meth c A ls H hAt hP hD hS hl
  obtain ⟨hx, hb, hr, hml, hown, hts, hN, hK, hlk, hnm, hA⟩ := hAt
  have hl : lv_has ls 1 [(0, .ref kt)] := hl
  have hown : s.vm.findClass RX10 = some m.cls := hown
  refine lv_aload_n hx hb dX10_solve_0 rfl (lv_at hl 0 rfl) ?_
  refine va_get (D := D) (ci := 10) (C := RX10) (T := TX10) (N := 6) hx hb hts iw_X10_solve_X10 hown hK hP 0 rfl rfl 3 (by decide) (hts (.fieldLink RX10 37 "KingTable" "play" "LKingTable$Play;") (by decide +kernel)) (fun _ h9 => h9) rfl dX10_solve_1 ?_
  refine kt_pi (wc := [(pl, .inr (4, [.ref la, .ref ru, .ref nw, .ref lo, .int 0]))]) [1] hP hD hS hA rfl (by decide) (fun hPc hDc => va_runV (As := []) (rest := []) ⟨hx, hb, hml, hown, hts⟩ (f_X4_isThere l D cI cZ cB H.size pl la ru nw lo ) (cwV 0 hts gX10_solve_X4_isThere rfl rfl rfl (by decide +kernel) ⟨Nat.le_of_ble_eq_true rfl, Nat.le_of_ble_eq_true rfl⟩) (kt_preV hN hK hPc hDc 0 (ci := 4) (q := (RX4, TX4, 5)) rfl rfl) rfl rfl hl.1 rfl (lv_room (Nat.le_of_ble_eq_true rfl)) dX10_solve_4 ⟨Nat.le_of_ble_eq_true rfl, Nat.le_of_ble_eq_true rfl⟩) (fun r_4 _ H locs hw_4 hP hS => ?_)
  subst hw_4
  refine lv_if_eq (tgt := 20) hx hb dX10_solve_7 (by decide) (fun c_7 => ?_) (fun c_7 => absurd c_7 (by decide))
  refine lv_iconst (v := (-1)) hx hb dX10_solve_20 (by decide) ?_
  exact kt_ri () hx hb hr hlk hS dX10_solve_21 hP hD (by rfl)

theorem iw_X7_indexOf_X7 : ∀ w ∈ wsX70, w ∈ wsX7_indexOf := by decide +kernel
set_option maxHeartbeats 4000000 in
set_option maxRecDepth 100000 in
theorem f_X7_indexOf (l : Launch) (D : va_G) (cI cZ cB : ClassId) (sz : Nat) (so : Nat) (ru : Nat) (nw : Nat) (tr : Nat) (lk : Nat) (vp : Nat) (vd : Nat) (vt : Nat) (vg : Nat) (vw : Nat) (ve : Nat) (vo : Nat) (vq : Nat) : kt_Mi l yX7_indexOf wsX7_indexOf { frames := 0, cells := 0, slots := 0, locals := 0 } D (kt_ty cI cZ cB) [.ref so, .ref nw] sz [(so, .inr (7, [.ref ru, .ref tr, .ref lk, .ref vp, .ref vd, .ref vt, .ref vg, .ref vw, .ref ve, .ref vo, .ref vq, .int 0, .int 0, .int 0, .int 0]))] (fun (r : Int32) (u : Unit) => r = (-1)) (fun (u : Unit) => [(so, .inr (7, [.ref ru, .ref tr, .ref lk, .ref vp, .ref vd, .ref vt, .ref vg, .ref vw, .ref ve, .ref vo, .ref vq, .int 0, .int 0, .int 0, .int 0]))]) 0 0 := by
  refine kt_Mi.of (cc := cX7_indexOf) (maxL := 5) (ret := some .int) (by decide) rfl (Nat.le_of_ble_eq_true rfl) ?_
  intro p e s m below meth c A ls H hAt hP hD hS hl
  obtain ⟨hx, hb, hr, hml, hown, hts, hN, hK, hlk, hnm, hA⟩ := hAt
  have hl : lv_has ls 5 [(0, .ref so), (1, .ref nw)] := hl
  have hown : s.vm.findClass RX7 = some m.cls := hown
  refine lv_aload_n hx hb dX7_indexOf_0 rfl (lv_at hl 0 rfl) ?_
  refine va_get (D := D) (ci := 7) (C := RX7) (T := TX7) (N := 15) hx hb hts iw_X7_indexOf_X7 hown hK hP 0 rfl rfl 14 (by decide) (hts (.fieldLink RX7 54 "KingTable$Solver" "solved" "Z") (by decide +kernel)) (fun _ h9 => h9) rfl dX7_indexOf_1 ?_
  refine lv_if_ne (tgt := 9) hx hb dX7_indexOf_4 (by decide) (fun c_4 => absurd c_4 (by decide)) (fun c_4 => ?_)
  refine lv_iconst (v := (-1)) hx hb dX7_indexOf_7 (by decide) ?_
  exact kt_ri () hx hb hr hlk hS dX7_indexOf_8 hP hD (by rfl)

set_option maxHeartbeats 4000000 in
set_option maxRecDepth 100000 in
theorem f_X7_worthOf (l : Launch) (D : va_G) (cI cZ cB : ClassId) (sz : Nat) (so : Nat) (ru : Nat) (nw : Nat) (tr : Nat) (lk : Nat) (vp : Nat) (vd : Nat) (vt : Nat) (vg : Nat) (vw : Nat) (ve : Nat) (vo : Nat) (vq : Nat) : kt_Mi l yX7_worthOf wsX7_worthOf { frames := 1, cells := 0, slots := 0, locals := 24 } D (kt_ty cI cZ cB) [.ref so, .ref nw] sz [(so, .inr (7, [.ref ru, .ref tr, .ref lk, .ref vp, .ref vd, .ref vt, .ref vg, .ref vw, .ref ve, .ref vo, .ref vq, .int 0, .int 0, .int 0, .int 0]))] (fun (r : Int32) (u : Unit) => r = (-1)) (fun (u : Unit) => [(so, .inr (7, [.ref ru, .ref tr, .ref lk, .ref vp, .ref vd, .ref vt, .ref vg, .ref vw, .ref ve, .ref vo, .ref vq, .int 0, .int 0, .int 0, .int 0]))]) 0 0 := by
  refine kt_Mi.of (cc := cX7_worthOf) (maxL := 3) (ret := some .int) (by decide) rfl (Nat.le_of_ble_eq_true rfl) ?_
  intro p e s m below meth c A ls H hAt hP hD hS hl
  obtain ⟨hx, hb, hr, hml, hown, hts, hN, hK, hlk, hnm, hA⟩ := hAt
  have hl : lv_has ls 3 [(0, .ref so), (1, .ref nw)] := hl
  have hown : s.vm.findClass RX7 = some m.cls := hown
  refine lv_aload_n hx hb dX7_worthOf_0 rfl (lv_at hl 0 rfl) ?_
  refine lv_aload_n hx hb dX7_worthOf_1 rfl (lv_at hl 1 rfl) ?_
  refine kt_pi (wc := [(so, .inr (7, [.ref ru, .ref tr, .ref lk, .ref vp, .ref vd, .ref vt, .ref vg, .ref vw, .ref ve, .ref vo, .ref vq, .int 0, .int 0, .int 0, .int 0]))]) [0] hP hD hS hA rfl (by decide) (fun hPc hDc => va_runV (As := [.ref nw]) (rest := []) ⟨hx, hb, hml, hown, hts⟩ (f_X7_indexOf l D cI cZ cB H.size so ru nw tr lk vp vd vt vg vw ve vo vq ) (cwV 1 hts gX7_worthOf_X7_indexOf rfl rfl rfl (by decide +kernel) ⟨Nat.le_of_ble_eq_true rfl, Nat.le_of_ble_eq_true rfl⟩) (kt_preV hN hK hPc hDc 0 (ci := 7) (q := (RX7, TX7, 15)) rfl rfl) rfl rfl hl.1 rfl (lv_room (Nat.le_of_ble_eq_true rfl)) dX7_worthOf_2 ⟨Nat.le_of_ble_eq_true rfl, Nat.le_of_ble_eq_true rfl⟩) (fun r_2 _ H locs hw_2 hP hS => ?_)
  subst hw_2
  refine lv_istore_n (lv' := [(2, .int (-1)), (0, .ref so), (1, .ref nw)]) hx hb dX7_worthOf_5 rfl hl (by decide) rfl (fun ls hl => ?_)
  refine lv_iload_n hx hb dX7_worthOf_6 rfl (lv_at hl 0 rfl) ?_
  refine lv_iconst (v := (-1)) hx hb dX7_worthOf_7 (by decide) ?_
  refine lv_icmp_ne (tgt := 15) hx hb dX7_worthOf_8 (by decide) (fun c_8 => absurd c_8 (by decide)) (fun c_8 => ?_)
  refine lv_iconst (v := (-1)) hx hb dX7_worthOf_11 (by decide) ?_
  refine lv_goto (tgt := 21) hx hb dX7_worthOf_12 (by decide) ?_
  exact kt_ri () hx hb hr hlk hS dX7_worthOf_21 hP hD (by rfl)

set_option maxHeartbeats 4000000 in
set_option maxRecDepth 100000 in
theorem f_X7_deepOf (l : Launch) (D : va_G) (cI cZ cB : ClassId) (sz : Nat) (so : Nat) (ru : Nat) (nw : Nat) (tr : Nat) (lk : Nat) (vp : Nat) (vd : Nat) (vt : Nat) (vg : Nat) (vw : Nat) (ve : Nat) (vo : Nat) (vq : Nat) : kt_Mi l yX7_deepOf wsX7_deepOf { frames := 1, cells := 0, slots := 0, locals := 24 } D (kt_ty cI cZ cB) [.ref so, .ref nw] sz [(so, .inr (7, [.ref ru, .ref tr, .ref lk, .ref vp, .ref vd, .ref vt, .ref vg, .ref vw, .ref ve, .ref vo, .ref vq, .int 0, .int 0, .int 0, .int 0]))] (fun (r : Int32) (u : Unit) => r = (-1)) (fun (u : Unit) => [(so, .inr (7, [.ref ru, .ref tr, .ref lk, .ref vp, .ref vd, .ref vt, .ref vg, .ref vw, .ref ve, .ref vo, .ref vq, .int 0, .int 0, .int 0, .int 0]))]) 0 0 := by
  refine kt_Mi.of (cc := cX7_deepOf) (maxL := 3) (ret := some .int) (by decide) rfl (Nat.le_of_ble_eq_true rfl) ?_
  intro p e s m below meth c A ls H hAt hP hD hS hl
  obtain ⟨hx, hb, hr, hml, hown, hts, hN, hK, hlk, hnm, hA⟩ := hAt
  have hl : lv_has ls 3 [(0, .ref so), (1, .ref nw)] := hl
  have hown : s.vm.findClass RX7 = some m.cls := hown
  refine lv_aload_n hx hb dX7_deepOf_0 rfl (lv_at hl 0 rfl) ?_
  refine lv_aload_n hx hb dX7_deepOf_1 rfl (lv_at hl 1 rfl) ?_
  refine kt_pi (wc := [(so, .inr (7, [.ref ru, .ref tr, .ref lk, .ref vp, .ref vd, .ref vt, .ref vg, .ref vw, .ref ve, .ref vo, .ref vq, .int 0, .int 0, .int 0, .int 0]))]) [0] hP hD hS hA rfl (by decide) (fun hPc hDc => va_runV (As := [.ref nw]) (rest := []) ⟨hx, hb, hml, hown, hts⟩ (f_X7_indexOf l D cI cZ cB H.size so ru nw tr lk vp vd vt vg vw ve vo vq ) (cwV 1 hts gX7_deepOf_X7_indexOf rfl rfl rfl (by decide +kernel) ⟨Nat.le_of_ble_eq_true rfl, Nat.le_of_ble_eq_true rfl⟩) (kt_preV hN hK hPc hDc 0 (ci := 7) (q := (RX7, TX7, 15)) rfl rfl) rfl rfl hl.1 rfl (lv_room (Nat.le_of_ble_eq_true rfl)) dX7_deepOf_2 ⟨Nat.le_of_ble_eq_true rfl, Nat.le_of_ble_eq_true rfl⟩) (fun r_2 _ H locs hw_2 hP hS => ?_)
  subst hw_2
  refine lv_istore_n (lv' := [(2, .int (-1)), (0, .ref so), (1, .ref nw)]) hx hb dX7_deepOf_5 rfl hl (by decide) rfl (fun ls hl => ?_)
  refine lv_iload_n hx hb dX7_deepOf_6 rfl (lv_at hl 0 rfl) ?_
  refine lv_iconst (v := (-1)) hx hb dX7_deepOf_7 (by decide) ?_
  refine lv_icmp_ne (tgt := 15) hx hb dX7_deepOf_8 (by decide) (fun c_8 => absurd c_8 (by decide)) (fun c_8 => ?_)
  refine lv_iconst (v := (-1)) hx hb dX7_deepOf_11 (by decide) ?_
  refine lv_goto (tgt := 21) hx hb dX7_deepOf_12 (by decide) ?_
  exact kt_ri () hx hb hr hlk hS dX7_deepOf_21 hP hD (by rfl)

set_option maxHeartbeats 4000000 in
set_option maxRecDepth 100000 in
theorem f_X7_bestMove (l : Launch) (D : va_G) (cI cZ cB : ClassId) (sz : Nat) (so : Nat) (ru : Nat) (nw : Nat) (tr : Nat) (lk : Nat) (vp : Nat) (vd : Nat) (vt : Nat) (vg : Nat) (vw : Nat) (ve : Nat) (vo : Nat) (vq : Nat) : kt_Mi l yX7_bestMove wsX7_bestMove { frames := 1, cells := 0, slots := 0, locals := 24 } D (kt_ty cI cZ cB) [.ref so, .ref nw] sz [(so, .inr (7, [.ref ru, .ref tr, .ref lk, .ref vp, .ref vd, .ref vt, .ref vg, .ref vw, .ref ve, .ref vo, .ref vq, .int 0, .int 0, .int 0, .int 0]))] (fun (r : Int32) (u : Unit) => r = (-1)) (fun (u : Unit) => [(so, .inr (7, [.ref ru, .ref tr, .ref lk, .ref vp, .ref vd, .ref vt, .ref vg, .ref vw, .ref ve, .ref vo, .ref vq, .int 0, .int 0, .int 0, .int 0]))]) 0 0 := by
  refine kt_Mi.of (cc := cX7_bestMove) (maxL := 8) (ret := some .int) (by decide) rfl (Nat.le_of_ble_eq_true rfl) ?_
  intro p e s m below meth c A ls H hAt hP hD hS hl
  obtain ⟨hx, hb, hr, hml, hown, hts, hN, hK, hlk, hnm, hA⟩ := hAt
  have hl : lv_has ls 8 [(0, .ref so), (1, .ref nw)] := hl
  have hown : s.vm.findClass RX7 = some m.cls := hown
  refine lv_aload_n hx hb dX7_bestMove_0 rfl (lv_at hl 0 rfl) ?_
  refine lv_aload_n hx hb dX7_bestMove_1 rfl (lv_at hl 1 rfl) ?_
  refine kt_pi (wc := [(so, .inr (7, [.ref ru, .ref tr, .ref lk, .ref vp, .ref vd, .ref vt, .ref vg, .ref vw, .ref ve, .ref vo, .ref vq, .int 0, .int 0, .int 0, .int 0]))]) [0] hP hD hS hA rfl (by decide) (fun hPc hDc => va_runV (As := [.ref nw]) (rest := []) ⟨hx, hb, hml, hown, hts⟩ (f_X7_indexOf l D cI cZ cB H.size so ru nw tr lk vp vd vt vg vw ve vo vq ) (cwV 1 hts gX7_bestMove_X7_indexOf rfl rfl rfl (by decide +kernel) ⟨Nat.le_of_ble_eq_true rfl, Nat.le_of_ble_eq_true rfl⟩) (kt_preV hN hK hPc hDc 0 (ci := 7) (q := (RX7, TX7, 15)) rfl rfl) rfl rfl hl.1 rfl (lv_room (Nat.le_of_ble_eq_true rfl)) dX7_bestMove_2 ⟨Nat.le_of_ble_eq_true rfl, Nat.le_of_ble_eq_true rfl⟩) (fun r_2 _ H locs hw_2 hP hS => ?_)
  subst hw_2
  refine lv_istore_n (lv' := [(2, .int (-1)), (0, .ref so), (1, .ref nw)]) hx hb dX7_bestMove_5 rfl hl (by decide) rfl (fun ls hl => ?_)
  refine lv_iload_n hx hb dX7_bestMove_6 rfl (lv_at hl 0 rfl) ?_
  refine lv_iconst (v := (-1)) hx hb dX7_bestMove_7 (by decide) ?_
  refine lv_icmp_eq (tgt := 30) hx hb dX7_bestMove_8 (by decide) (fun c_8 => ?_) (fun c_8 => absurd c_8 (by decide))
  refine lv_iconst (v := (-1)) hx hb dX7_bestMove_30 (by decide) ?_
  exact kt_ri () hx hb hr hlk hS dX7_bestMove_31 hP hD (by rfl)

theorem iw_X7_tally_X7 : ∀ w ∈ wsX70, w ∈ wsX7_tally := by decide +kernel
set_option maxHeartbeats 4000000 in
set_option maxRecDepth 100000 in
theorem f_X7_tally (l : Launch) (D : va_G) (cI cZ cB : ClassId) (sz : Nat) (so : Nat) (ru : Nat) (tr : Nat) (lk : Nat) (vp : Nat) (vd : Nat) (vt : Nat) (vg : Nat) (vw : Nat) (ve : Nat) (vo : Nat) (vq : Nat) (p1 : Int32) (p2 : Int32) : kt_Mi l yX7_tally wsX7_tally { frames := 0, cells := 0, slots := 0, locals := 0 } D (kt_ty cI cZ cB) [.ref so, .int p1, .int p2] sz [(so, .inr (7, [.ref ru, .ref tr, .ref lk, .ref vp, .ref vd, .ref vt, .ref vg, .ref vw, .ref ve, .ref vo, .ref vq, .int 0, .int 0, .int 0, .int 0]))] (fun (r : Int32) (u : Unit) => r = (-1)) (fun (u : Unit) => [(so, .inr (7, [.ref ru, .ref tr, .ref lk, .ref vp, .ref vd, .ref vt, .ref vg, .ref vw, .ref ve, .ref vo, .ref vq, .int 0, .int 0, .int 0, .int 0]))]) 0 0 := by
  refine kt_Mi.of (cc := cX7_tally) (maxL := 3) (ret := some .int) (by decide) rfl (Nat.le_of_ble_eq_true rfl) ?_
  intro p e s m below meth c A ls H hAt hP hD hS hl
  obtain ⟨hx, hb, hr, hml, hown, hts, hN, hK, hlk, hnm, hA⟩ := hAt
  have hl : lv_has ls 3 [(0, .ref so), (1, .int p1), (2, .int p2)] := hl
  have hown : s.vm.findClass RX7 = some m.cls := hown
  refine lv_aload_n hx hb dX7_tally_0 rfl (lv_at hl 0 rfl) ?_
  refine va_get (D := D) (ci := 7) (C := RX7) (T := TX7) (N := 15) hx hb hts iw_X7_tally_X7 hown hK hP 0 rfl rfl 14 (by decide) (hts (.fieldLink RX7 54 "KingTable$Solver" "solved" "Z") (by decide +kernel)) (fun _ h9 => h9) rfl dX7_tally_1 ?_
  refine lv_if_eq (tgt := 23) hx hb dX7_tally_4 (by decide) (fun c_4 => ?_) (fun c_4 => absurd c_4 (by decide))
  refine lv_iconst (v := (-1)) hx hb dX7_tally_23 (by decide) ?_
  exact kt_ri () hx hb hr hlk hS dX7_tally_24 hP hD (by rfl)

theorem iw_X7_greatestDeep_X7 : ∀ w ∈ wsX70, w ∈ wsX7_greatestDeep := by decide +kernel
set_option maxHeartbeats 4000000 in
set_option maxRecDepth 100000 in
theorem f_X7_greatestDeep (l : Launch) (D : va_G) (cI cZ cB : ClassId) (sz : Nat) (so : Nat) (ru : Nat) (tr : Nat) (lk : Nat) (vp : Nat) (vd : Nat) (vt : Nat) (vg : Nat) (vw : Nat) (ve : Nat) (vo : Nat) (vq : Nat) (p1 : Int32) : kt_Mi l yX7_greatestDeep wsX7_greatestDeep { frames := 0, cells := 0, slots := 0, locals := 0 } D (kt_ty cI cZ cB) [.ref so, .int p1] sz [(so, .inr (7, [.ref ru, .ref tr, .ref lk, .ref vp, .ref vd, .ref vt, .ref vg, .ref vw, .ref ve, .ref vo, .ref vq, .int 0, .int 0, .int 0, .int 0]))] (fun (r : Int32) (u : Unit) => r = (-1)) (fun (u : Unit) => [(so, .inr (7, [.ref ru, .ref tr, .ref lk, .ref vp, .ref vd, .ref vt, .ref vg, .ref vw, .ref ve, .ref vo, .ref vq, .int 0, .int 0, .int 0, .int 0]))]) 0 0 := by
  refine kt_Mi.of (cc := cX7_greatestDeep) (maxL := 2) (ret := some .int) (by decide) rfl (Nat.le_of_ble_eq_true rfl) ?_
  intro p e s m below meth c A ls H hAt hP hD hS hl
  obtain ⟨hx, hb, hr, hml, hown, hts, hN, hK, hlk, hnm, hA⟩ := hAt
  have hl : lv_has ls 2 [(0, .ref so), (1, .int p1)] := hl
  have hown : s.vm.findClass RX7 = some m.cls := hown
  refine lv_aload_n hx hb dX7_greatestDeep_0 rfl (lv_at hl 0 rfl) ?_
  refine va_get (D := D) (ci := 7) (C := RX7) (T := TX7) (N := 15) hx hb hts iw_X7_greatestDeep_X7 hown hK hP 0 rfl rfl 14 (by decide) (hts (.fieldLink RX7 54 "KingTable$Solver" "solved" "Z") (by decide +kernel)) (fun _ h9 => h9) rfl dX7_greatestDeep_1 ?_
  refine lv_if_eq (tgt := 23) hx hb dX7_greatestDeep_4 (by decide) (fun c_4 => ?_) (fun c_4 => absurd c_4 (by decide))
  refine lv_iconst (v := (-1)) hx hb dX7_greatestDeep_23 (by decide) ?_
  exact kt_ri () hx hb hr hlk hS dX7_greatestDeep_24 hP hD (by rfl)

theorem iw_X7_worthAt_X7 : ∀ w ∈ wsX70, w ∈ wsX7_worthAt := by decide +kernel
set_option maxHeartbeats 4000000 in
set_option maxRecDepth 100000 in
theorem f_X7_worthAt (l : Launch) (D : va_G) (cI cZ cB : ClassId) (sz : Nat) (so : Nat) (ru : Nat) (tr : Nat) (lk : Nat) (vp : Nat) (vd : Nat) (vt : Nat) (vg : Nat) (vw : Nat) (ve : Nat) (vo : Nat) (vq : Nat) (p1 : Int32) (p2 : Int32) : kt_Mi l yX7_worthAt wsX7_worthAt { frames := 0, cells := 0, slots := 0, locals := 0 } D (kt_ty cI cZ cB) [.ref so, .int p1, .int p2] sz [(so, .inr (7, [.ref ru, .ref tr, .ref lk, .ref vp, .ref vd, .ref vt, .ref vg, .ref vw, .ref ve, .ref vo, .ref vq, .int 0, .int 0, .int 0, .int 0]))] (fun (r : Int32) (u : Unit) => r = (-1)) (fun (u : Unit) => [(so, .inr (7, [.ref ru, .ref tr, .ref lk, .ref vp, .ref vd, .ref vt, .ref vg, .ref vw, .ref ve, .ref vo, .ref vq, .int 0, .int 0, .int 0, .int 0]))]) 0 0 := by
  refine kt_Mi.of (cc := cX7_worthAt) (maxL := 4) (ret := some .int) (by decide) rfl (Nat.le_of_ble_eq_true rfl) ?_
  intro p e s m below meth c A ls H hAt hP hD hS hl
  obtain ⟨hx, hb, hr, hml, hown, hts, hN, hK, hlk, hnm, hA⟩ := hAt
  have hl : lv_has ls 4 [(0, .ref so), (1, .int p1), (2, .int p2)] := hl
  have hown : s.vm.findClass RX7 = some m.cls := hown
  refine lv_aload_n hx hb dX7_worthAt_0 rfl (lv_at hl 0 rfl) ?_
  refine va_get (D := D) (ci := 7) (C := RX7) (T := TX7) (N := 15) hx hb hts iw_X7_worthAt_X7 hown hK hP 0 rfl rfl 14 (by decide) (hts (.fieldLink RX7 54 "KingTable$Solver" "solved" "Z") (by decide +kernel)) (fun _ h9 => h9) rfl dX7_worthAt_1 ?_
  refine lv_if_eq (tgt := 30) hx hb dX7_worthAt_4 (by decide) (fun c_4 => ?_) (fun c_4 => absurd c_4 (by decide))
  refine lv_iconst (v := 0) hx hb dX7_worthAt_30 (by decide) ?_
  refine lv_istore_n (lv' := [(3, .int 0), (0, .ref so), (1, .int p1), (2, .int p2)]) hx hb dX7_worthAt_31 rfl hl (by decide) rfl (fun ls hl => ?_)
  refine lv_iload_n hx hb dX7_worthAt_32 rfl (lv_at hl 0 rfl) ?_
  refine lv_if_eq (tgt := 49) hx hb dX7_worthAt_33 (by decide) (fun c_33 => ?_) (fun c_33 => absurd c_33 (by decide))
  refine lv_iconst (v := (-1)) hx hb dX7_worthAt_49 (by decide) ?_
  exact kt_ri () hx hb hr hlk hS dX7_worthAt_50 hP hD (by rfl)

theorem iw_X10_worth_X10 : ∀ w ∈ wsX100, w ∈ wsX10_worth := by decide +kernel
theorem iw_X10_worth_X4 : ∀ w ∈ wsX40, w ∈ wsX10_worth := by decide +kernel
set_option maxHeartbeats 4000000 in
set_option maxRecDepth 100000 in
theorem f_X10_worth (l : Launch) (D : va_G) (cI cZ cB : ClassId) (sz : Nat) (kt : Nat) (to : Nat) (la : Nat) (ru : Nat) (pl : Nat) (ho : Nat) (so : Nat) (nw : Nat) (lo : Nat) (tr : Nat) (lk : Nat) (vp : Nat) (vd : Nat) (vt : Nat) (vg : Nat) (vw : Nat) (ve : Nat) (vo : Nat) (vq : Nat) : kt_Mi l yX10_worth wsX10_worth { frames := 2, cells := 0, slots := 0, locals := 46 } D (kt_ty cI cZ cB) [.ref kt] sz [(kt, .inr (10, [.ref to, .ref la, .ref ru, .ref pl, .ref ho, .ref so])), (pl, .inr (4, [.ref la, .ref ru, .ref nw, .ref lo, .int 0])), (so, .inr (7, [.ref ru, .ref tr, .ref lk, .ref vp, .ref vd, .ref vt, .ref vg, .ref vw, .ref ve, .ref vo, .ref vq, .int 0, .int 0, .int 0, .int 0]))] (fun (r : Int32) (u : Unit) => r = (-1)) (fun (u : Unit) => [(kt, .inr (10, [.ref to, .ref la, .ref ru, .ref pl, .ref ho, .ref so])), (pl, .inr (4, [.ref la, .ref ru, .ref nw, .ref lo, .int 0])), (so, .inr (7, [.ref ru, .ref tr, .ref lk, .ref vp, .ref vd, .ref vt, .ref vg, .ref vw, .ref ve, .ref vo, .ref vq, .int 0, .int 0, .int 0, .int 0]))]) 0 0 := by
  refine kt_Mi.of (cc := cX10_worth) (maxL := 1) (ret := some .int) (by decide) rfl (Nat.le_of_ble_eq_true rfl) ?_
  intro p e s m below meth c A ls H hAt hP hD hS hl
  obtain ⟨hx, hb, hr, hml, hown, hts, hN, hK, hlk, hnm, hA⟩ := hAt
  have hl : lv_has ls 1 [(0, .ref kt)] := hl
  have hown : s.vm.findClass RX10 = some m.cls := hown
  refine lv_aload_n hx hb dX10_worth_0 rfl (lv_at hl 0 rfl) ?_
  refine va_get (D := D) (ci := 10) (C := RX10) (T := TX10) (N := 6) hx hb hts iw_X10_worth_X10 hown hK hP 0 rfl rfl 5 (by decide) (hts (.fieldLink RX10 53 "KingTable" "solver" "LKingTable$Solver;") (by decide +kernel)) (fun _ h9 => h9) rfl dX10_worth_1 ?_
  refine lv_aload_n hx hb dX10_worth_4 rfl (lv_at hl 0 rfl) ?_
  refine va_get (D := D) (ci := 10) (C := RX10) (T := TX10) (N := 6) hx hb hts iw_X10_worth_X10 hown hK hP 0 rfl rfl 3 (by decide) (hts (.fieldLink RX10 37 "KingTable" "play" "LKingTable$Play;") (by decide +kernel)) (fun _ h9 => h9) rfl dX10_worth_5 ?_
  refine va_getN (D := D) (ci := 4) (C := RX4) (T := TX4) (N := 5) hx hb hts iw_X10_worth_X4 hown hK hP 1 rfl rfl 2 (by decide) (va_Nw.use (w := .fieldLinkNest RX10 139 "KingTable$Play" "now" "LKingTable$Stand;" "KingTable") rfl (hN _ (by decide +kernel))) (fun _ h9 => h9) rfl dX10_worth_8 ?_
  refine kt_pi (wc := [(so, .inr (7, [.ref ru, .ref tr, .ref lk, .ref vp, .ref vd, .ref vt, .ref vg, .ref vw, .ref ve, .ref vo, .ref vq, .int 0, .int 0, .int 0, .int 0]))]) [2] hP hD hS hA rfl (by decide) (fun hPc hDc => va_runV (As := [.ref nw]) (rest := []) ⟨hx, hb, hml, hown, hts⟩ (f_X7_worthOf l D cI cZ cB H.size so ru nw tr lk vp vd vt vg vw ve vo vq ) (cwV 1 hts gX10_worth_X7_worthOf rfl rfl rfl (by decide +kernel) ⟨Nat.le_of_ble_eq_true rfl, Nat.le_of_ble_eq_true rfl⟩) (kt_preV hN hK hPc hDc 0 (ci := 7) (q := (RX7, TX7, 15)) rfl rfl) rfl rfl hl.1 rfl (lv_room (Nat.le_of_ble_eq_true rfl)) dX10_worth_11 ⟨Nat.le_of_ble_eq_true rfl, Nat.le_of_ble_eq_true rfl⟩) (fun r_11 _ H locs hw_11 hP hS => ?_)
  subst hw_11
  exact kt_ri () hx hb hr hlk hS dX10_worth_14 hP hD (by rfl)

theorem iw_X10_deep_X10 : ∀ w ∈ wsX100, w ∈ wsX10_deep := by decide +kernel
theorem iw_X10_deep_X4 : ∀ w ∈ wsX40, w ∈ wsX10_deep := by decide +kernel
set_option maxHeartbeats 4000000 in
set_option maxRecDepth 100000 in
theorem f_X10_deep (l : Launch) (D : va_G) (cI cZ cB : ClassId) (sz : Nat) (kt : Nat) (to : Nat) (la : Nat) (ru : Nat) (pl : Nat) (ho : Nat) (so : Nat) (nw : Nat) (lo : Nat) (tr : Nat) (lk : Nat) (vp : Nat) (vd : Nat) (vt : Nat) (vg : Nat) (vw : Nat) (ve : Nat) (vo : Nat) (vq : Nat) : kt_Mi l yX10_deep wsX10_deep { frames := 2, cells := 0, slots := 0, locals := 46 } D (kt_ty cI cZ cB) [.ref kt] sz [(kt, .inr (10, [.ref to, .ref la, .ref ru, .ref pl, .ref ho, .ref so])), (pl, .inr (4, [.ref la, .ref ru, .ref nw, .ref lo, .int 0])), (so, .inr (7, [.ref ru, .ref tr, .ref lk, .ref vp, .ref vd, .ref vt, .ref vg, .ref vw, .ref ve, .ref vo, .ref vq, .int 0, .int 0, .int 0, .int 0]))] (fun (r : Int32) (u : Unit) => r = (-1)) (fun (u : Unit) => [(kt, .inr (10, [.ref to, .ref la, .ref ru, .ref pl, .ref ho, .ref so])), (pl, .inr (4, [.ref la, .ref ru, .ref nw, .ref lo, .int 0])), (so, .inr (7, [.ref ru, .ref tr, .ref lk, .ref vp, .ref vd, .ref vt, .ref vg, .ref vw, .ref ve, .ref vo, .ref vq, .int 0, .int 0, .int 0, .int 0]))]) 0 0 := by
  refine kt_Mi.of (cc := cX10_deep) (maxL := 1) (ret := some .int) (by decide) rfl (Nat.le_of_ble_eq_true rfl) ?_
  intro p e s m below meth c A ls H hAt hP hD hS hl
  obtain ⟨hx, hb, hr, hml, hown, hts, hN, hK, hlk, hnm, hA⟩ := hAt
  have hl : lv_has ls 1 [(0, .ref kt)] := hl
  have hown : s.vm.findClass RX10 = some m.cls := hown
  refine lv_aload_n hx hb dX10_deep_0 rfl (lv_at hl 0 rfl) ?_
  refine va_get (D := D) (ci := 10) (C := RX10) (T := TX10) (N := 6) hx hb hts iw_X10_deep_X10 hown hK hP 0 rfl rfl 5 (by decide) (hts (.fieldLink RX10 53 "KingTable" "solver" "LKingTable$Solver;") (by decide +kernel)) (fun _ h9 => h9) rfl dX10_deep_1 ?_
  refine lv_aload_n hx hb dX10_deep_4 rfl (lv_at hl 0 rfl) ?_
  refine va_get (D := D) (ci := 10) (C := RX10) (T := TX10) (N := 6) hx hb hts iw_X10_deep_X10 hown hK hP 0 rfl rfl 3 (by decide) (hts (.fieldLink RX10 37 "KingTable" "play" "LKingTable$Play;") (by decide +kernel)) (fun _ h9 => h9) rfl dX10_deep_5 ?_
  refine va_getN (D := D) (ci := 4) (C := RX4) (T := TX4) (N := 5) hx hb hts iw_X10_deep_X4 hown hK hP 1 rfl rfl 2 (by decide) (va_Nw.use (w := .fieldLinkNest RX10 139 "KingTable$Play" "now" "LKingTable$Stand;" "KingTable") rfl (hN _ (by decide +kernel))) (fun _ h9 => h9) rfl dX10_deep_8 ?_
  refine kt_pi (wc := [(so, .inr (7, [.ref ru, .ref tr, .ref lk, .ref vp, .ref vd, .ref vt, .ref vg, .ref vw, .ref ve, .ref vo, .ref vq, .int 0, .int 0, .int 0, .int 0]))]) [2] hP hD hS hA rfl (by decide) (fun hPc hDc => va_runV (As := [.ref nw]) (rest := []) ⟨hx, hb, hml, hown, hts⟩ (f_X7_deepOf l D cI cZ cB H.size so ru nw tr lk vp vd vt vg vw ve vo vq ) (cwV 1 hts gX10_deep_X7_deepOf rfl rfl rfl (by decide +kernel) ⟨Nat.le_of_ble_eq_true rfl, Nat.le_of_ble_eq_true rfl⟩) (kt_preV hN hK hPc hDc 0 (ci := 7) (q := (RX7, TX7, 15)) rfl rfl) rfl rfl hl.1 rfl (lv_room (Nat.le_of_ble_eq_true rfl)) dX10_deep_11 ⟨Nat.le_of_ble_eq_true rfl, Nat.le_of_ble_eq_true rfl⟩) (fun r_11 _ H locs hw_11 hP hS => ?_)
  subst hw_11
  exact kt_ri () hx hb hr hlk hS dX10_deep_14 hP hD (by rfl)

theorem iw_X10_best_X10 : ∀ w ∈ wsX100, w ∈ wsX10_best := by decide +kernel
theorem iw_X10_best_X4 : ∀ w ∈ wsX40, w ∈ wsX10_best := by decide +kernel
set_option maxHeartbeats 4000000 in
set_option maxRecDepth 100000 in
theorem f_X10_best (l : Launch) (D : va_G) (cI cZ cB : ClassId) (sz : Nat) (kt : Nat) (to : Nat) (la : Nat) (ru : Nat) (pl : Nat) (ho : Nat) (so : Nat) (nw : Nat) (lo : Nat) (tr : Nat) (lk : Nat) (vp : Nat) (vd : Nat) (vt : Nat) (vg : Nat) (vw : Nat) (ve : Nat) (vo : Nat) (vq : Nat) : kt_Mi l yX10_best wsX10_best { frames := 2, cells := 0, slots := 0, locals := 51 } D (kt_ty cI cZ cB) [.ref kt] sz [(kt, .inr (10, [.ref to, .ref la, .ref ru, .ref pl, .ref ho, .ref so])), (pl, .inr (4, [.ref la, .ref ru, .ref nw, .ref lo, .int 0])), (so, .inr (7, [.ref ru, .ref tr, .ref lk, .ref vp, .ref vd, .ref vt, .ref vg, .ref vw, .ref ve, .ref vo, .ref vq, .int 0, .int 0, .int 0, .int 0]))] (fun (r : Int32) (u : Unit) => r = (-1)) (fun (u : Unit) => [(kt, .inr (10, [.ref to, .ref la, .ref ru, .ref pl, .ref ho, .ref so])), (pl, .inr (4, [.ref la, .ref ru, .ref nw, .ref lo, .int 0])), (so, .inr (7, [.ref ru, .ref tr, .ref lk, .ref vp, .ref vd, .ref vt, .ref vg, .ref vw, .ref ve, .ref vo, .ref vq, .int 0, .int 0, .int 0, .int 0]))]) 0 0 := by
  refine kt_Mi.of (cc := cX10_best) (maxL := 1) (ret := some .int) (by decide) rfl (Nat.le_of_ble_eq_true rfl) ?_
  intro p e s m below meth c A ls H hAt hP hD hS hl
  obtain ⟨hx, hb, hr, hml, hown, hts, hN, hK, hlk, hnm, hA⟩ := hAt
  have hl : lv_has ls 1 [(0, .ref kt)] := hl
  have hown : s.vm.findClass RX10 = some m.cls := hown
  refine lv_aload_n hx hb dX10_best_0 rfl (lv_at hl 0 rfl) ?_
  refine va_get (D := D) (ci := 10) (C := RX10) (T := TX10) (N := 6) hx hb hts iw_X10_best_X10 hown hK hP 0 rfl rfl 5 (by decide) (hts (.fieldLink RX10 53 "KingTable" "solver" "LKingTable$Solver;") (by decide +kernel)) (fun _ h9 => h9) rfl dX10_best_1 ?_
  refine lv_aload_n hx hb dX10_best_4 rfl (lv_at hl 0 rfl) ?_
  refine va_get (D := D) (ci := 10) (C := RX10) (T := TX10) (N := 6) hx hb hts iw_X10_best_X10 hown hK hP 0 rfl rfl 3 (by decide) (hts (.fieldLink RX10 37 "KingTable" "play" "LKingTable$Play;") (by decide +kernel)) (fun _ h9 => h9) rfl dX10_best_5 ?_
  refine va_getN (D := D) (ci := 4) (C := RX4) (T := TX4) (N := 5) hx hb hts iw_X10_best_X4 hown hK hP 1 rfl rfl 2 (by decide) (va_Nw.use (w := .fieldLinkNest RX10 139 "KingTable$Play" "now" "LKingTable$Stand;" "KingTable") rfl (hN _ (by decide +kernel))) (fun _ h9 => h9) rfl dX10_best_8 ?_
  refine kt_pi (wc := [(so, .inr (7, [.ref ru, .ref tr, .ref lk, .ref vp, .ref vd, .ref vt, .ref vg, .ref vw, .ref ve, .ref vo, .ref vq, .int 0, .int 0, .int 0, .int 0]))]) [2] hP hD hS hA rfl (by decide) (fun hPc hDc => va_runV (As := [.ref nw]) (rest := []) ⟨hx, hb, hml, hown, hts⟩ (f_X7_bestMove l D cI cZ cB H.size so ru nw tr lk vp vd vt vg vw ve vo vq ) (cwV 1 hts gX10_best_X7_bestMove rfl rfl rfl (by decide +kernel) ⟨Nat.le_of_ble_eq_true rfl, Nat.le_of_ble_eq_true rfl⟩) (kt_preV hN hK hPc hDc 0 (ci := 7) (q := (RX7, TX7, 15)) rfl rfl) rfl rfl hl.1 rfl (lv_room (Nat.le_of_ble_eq_true rfl)) dX10_best_11 ⟨Nat.le_of_ble_eq_true rfl, Nat.le_of_ble_eq_true rfl⟩) (fun r_11 _ H locs hw_11 hP hS => ?_)
  subst hw_11
  exact kt_ri () hx hb hr hlk hS dX10_best_14 hP hD (by rfl)

theorem iw_X10_count_X10 : ∀ w ∈ wsX100, w ∈ wsX10_count := by decide +kernel
set_option maxHeartbeats 4000000 in
set_option maxRecDepth 100000 in
theorem f_X10_count (l : Launch) (D : va_G) (cI cZ cB : ClassId) (sz : Nat) (kt : Nat) (to : Nat) (la : Nat) (ru : Nat) (pl : Nat) (ho : Nat) (so : Nat) (tr : Nat) (lk : Nat) (vp : Nat) (vd : Nat) (vt : Nat) (vg : Nat) (vw : Nat) (ve : Nat) (vo : Nat) (vq : Nat) (p1 : Int32) (p2 : Int32) : kt_Mi l yX10_count wsX10_count { frames := 1, cells := 0, slots := 0, locals := 22 } D (kt_ty cI cZ cB) [.ref kt, .int p1, .int p2] sz [(kt, .inr (10, [.ref to, .ref la, .ref ru, .ref pl, .ref ho, .ref so])), (so, .inr (7, [.ref ru, .ref tr, .ref lk, .ref vp, .ref vd, .ref vt, .ref vg, .ref vw, .ref ve, .ref vo, .ref vq, .int 0, .int 0, .int 0, .int 0]))] (fun (r : Int32) (u : Unit) => r = (-1)) (fun (u : Unit) => [(kt, .inr (10, [.ref to, .ref la, .ref ru, .ref pl, .ref ho, .ref so])), (so, .inr (7, [.ref ru, .ref tr, .ref lk, .ref vp, .ref vd, .ref vt, .ref vg, .ref vw, .ref ve, .ref vo, .ref vq, .int 0, .int 0, .int 0, .int 0]))]) 0 0 := by
  refine kt_Mi.of (cc := cX10_count) (maxL := 3) (ret := some .int) (by decide) rfl (Nat.le_of_ble_eq_true rfl) ?_
  intro p e s m below meth c A ls H hAt hP hD hS hl
  obtain ⟨hx, hb, hr, hml, hown, hts, hN, hK, hlk, hnm, hA⟩ := hAt
  have hl : lv_has ls 3 [(0, .ref kt), (1, .int p1), (2, .int p2)] := hl
  have hown : s.vm.findClass RX10 = some m.cls := hown
  refine lv_aload_n hx hb dX10_count_0 rfl (lv_at hl 0 rfl) ?_
  refine va_get (D := D) (ci := 10) (C := RX10) (T := TX10) (N := 6) hx hb hts iw_X10_count_X10 hown hK hP 0 rfl rfl 5 (by decide) (hts (.fieldLink RX10 53 "KingTable" "solver" "LKingTable$Solver;") (by decide +kernel)) (fun _ h9 => h9) rfl dX10_count_1 ?_
  refine lv_iload_n hx hb dX10_count_4 rfl (lv_at hl 1 rfl) ?_
  refine lv_iload_n hx hb dX10_count_5 rfl (lv_at hl 2 rfl) ?_
  refine kt_pi (wc := [(so, .inr (7, [.ref ru, .ref tr, .ref lk, .ref vp, .ref vd, .ref vt, .ref vg, .ref vw, .ref ve, .ref vo, .ref vq, .int 0, .int 0, .int 0, .int 0]))]) [1] hP hD hS hA rfl (by decide) (fun hPc hDc => va_runV (As := [.int p1, .int p2]) (rest := []) ⟨hx, hb, hml, hown, hts⟩ (f_X7_tally l D cI cZ cB H.size so ru tr lk vp vd vt vg vw ve vo vq p1 p2 ) (cwV 2 hts gX10_count_X7_tally rfl rfl rfl (by decide +kernel) ⟨Nat.le_of_ble_eq_true rfl, Nat.le_of_ble_eq_true rfl⟩) (kt_preV hN hK hPc hDc 0 (ci := 7) (q := (RX7, TX7, 15)) rfl rfl) rfl rfl hl.1 rfl (lv_room (Nat.le_of_ble_eq_true rfl)) dX10_count_6 ⟨Nat.le_of_ble_eq_true rfl, Nat.le_of_ble_eq_true rfl⟩) (fun r_6 _ H locs hw_6 hP hS => ?_)
  subst hw_6
  exact kt_ri () hx hb hr hlk hS dX10_count_9 hP hD (by rfl)

theorem iw_X10_most_X10 : ∀ w ∈ wsX100, w ∈ wsX10_most := by decide +kernel
set_option maxHeartbeats 4000000 in
set_option maxRecDepth 100000 in
theorem f_X10_most (l : Launch) (D : va_G) (cI cZ cB : ClassId) (sz : Nat) (kt : Nat) (to : Nat) (la : Nat) (ru : Nat) (pl : Nat) (ho : Nat) (so : Nat) (tr : Nat) (lk : Nat) (vp : Nat) (vd : Nat) (vt : Nat) (vg : Nat) (vw : Nat) (ve : Nat) (vo : Nat) (vq : Nat) (p1 : Int32) : kt_Mi l yX10_most wsX10_most { frames := 1, cells := 0, slots := 0, locals := 21 } D (kt_ty cI cZ cB) [.ref kt, .int p1] sz [(kt, .inr (10, [.ref to, .ref la, .ref ru, .ref pl, .ref ho, .ref so])), (so, .inr (7, [.ref ru, .ref tr, .ref lk, .ref vp, .ref vd, .ref vt, .ref vg, .ref vw, .ref ve, .ref vo, .ref vq, .int 0, .int 0, .int 0, .int 0]))] (fun (r : Int32) (u : Unit) => r = (-1)) (fun (u : Unit) => [(kt, .inr (10, [.ref to, .ref la, .ref ru, .ref pl, .ref ho, .ref so])), (so, .inr (7, [.ref ru, .ref tr, .ref lk, .ref vp, .ref vd, .ref vt, .ref vg, .ref vw, .ref ve, .ref vo, .ref vq, .int 0, .int 0, .int 0, .int 0]))]) 0 0 := by
  refine kt_Mi.of (cc := cX10_most) (maxL := 2) (ret := some .int) (by decide) rfl (Nat.le_of_ble_eq_true rfl) ?_
  intro p e s m below meth c A ls H hAt hP hD hS hl
  obtain ⟨hx, hb, hr, hml, hown, hts, hN, hK, hlk, hnm, hA⟩ := hAt
  have hl : lv_has ls 2 [(0, .ref kt), (1, .int p1)] := hl
  have hown : s.vm.findClass RX10 = some m.cls := hown
  refine lv_aload_n hx hb dX10_most_0 rfl (lv_at hl 0 rfl) ?_
  refine va_get (D := D) (ci := 10) (C := RX10) (T := TX10) (N := 6) hx hb hts iw_X10_most_X10 hown hK hP 0 rfl rfl 5 (by decide) (hts (.fieldLink RX10 53 "KingTable" "solver" "LKingTable$Solver;") (by decide +kernel)) (fun _ h9 => h9) rfl dX10_most_1 ?_
  refine lv_iload_n hx hb dX10_most_4 rfl (lv_at hl 1 rfl) ?_
  refine kt_pi (wc := [(so, .inr (7, [.ref ru, .ref tr, .ref lk, .ref vp, .ref vd, .ref vt, .ref vg, .ref vw, .ref ve, .ref vo, .ref vq, .int 0, .int 0, .int 0, .int 0]))]) [1] hP hD hS hA rfl (by decide) (fun hPc hDc => va_runV (As := [.int p1]) (rest := []) ⟨hx, hb, hml, hown, hts⟩ (f_X7_greatestDeep l D cI cZ cB H.size so ru tr lk vp vd vt vg vw ve vo vq p1 ) (cwV 1 hts gX10_most_X7_greatestDeep rfl rfl rfl (by decide +kernel) ⟨Nat.le_of_ble_eq_true rfl, Nat.le_of_ble_eq_true rfl⟩) (kt_preV hN hK hPc hDc 0 (ci := 7) (q := (RX7, TX7, 15)) rfl rfl) rfl rfl hl.1 rfl (lv_room (Nat.le_of_ble_eq_true rfl)) dX10_most_5 ⟨Nat.le_of_ble_eq_true rfl, Nat.le_of_ble_eq_true rfl⟩) (fun r_5 _ H locs hw_5 hP hS => ?_)
  subst hw_5
  exact kt_ri () hx hb hr hlk hS dX10_most_8 hP hD (by rfl)

theorem iw_X10_stand_X10 : ∀ w ∈ wsX100, w ∈ wsX10_stand := by decide +kernel
set_option maxHeartbeats 4000000 in
set_option maxRecDepth 100000 in
theorem f_X10_stand (l : Launch) (D : va_G) (cI cZ cB : ClassId) (sz : Nat) (kt : Nat) (to : Nat) (la : Nat) (ru : Nat) (pl : Nat) (ho : Nat) (so : Nat) (tr : Nat) (lk : Nat) (vp : Nat) (vd : Nat) (vt : Nat) (vg : Nat) (vw : Nat) (ve : Nat) (vo : Nat) (vq : Nat) (p1 : Int32) (p2 : Int32) : kt_Mi l yX10_stand wsX10_stand { frames := 1, cells := 0, slots := 0, locals := 23 } D (kt_ty cI cZ cB) [.ref kt, .int p1, .int p2] sz [(kt, .inr (10, [.ref to, .ref la, .ref ru, .ref pl, .ref ho, .ref so])), (so, .inr (7, [.ref ru, .ref tr, .ref lk, .ref vp, .ref vd, .ref vt, .ref vg, .ref vw, .ref ve, .ref vo, .ref vq, .int 0, .int 0, .int 0, .int 0]))] (fun (r : Int32) (u : Unit) => r = (-1)) (fun (u : Unit) => [(kt, .inr (10, [.ref to, .ref la, .ref ru, .ref pl, .ref ho, .ref so])), (so, .inr (7, [.ref ru, .ref tr, .ref lk, .ref vp, .ref vd, .ref vt, .ref vg, .ref vw, .ref ve, .ref vo, .ref vq, .int 0, .int 0, .int 0, .int 0]))]) 0 0 := by
  refine kt_Mi.of (cc := cX10_stand) (maxL := 3) (ret := some .int) (by decide) rfl (Nat.le_of_ble_eq_true rfl) ?_
  intro p e s m below meth c A ls H hAt hP hD hS hl
  obtain ⟨hx, hb, hr, hml, hown, hts, hN, hK, hlk, hnm, hA⟩ := hAt
  have hl : lv_has ls 3 [(0, .ref kt), (1, .int p1), (2, .int p2)] := hl
  have hown : s.vm.findClass RX10 = some m.cls := hown
  refine lv_aload_n hx hb dX10_stand_0 rfl (lv_at hl 0 rfl) ?_
  refine va_get (D := D) (ci := 10) (C := RX10) (T := TX10) (N := 6) hx hb hts iw_X10_stand_X10 hown hK hP 0 rfl rfl 5 (by decide) (hts (.fieldLink RX10 53 "KingTable" "solver" "LKingTable$Solver;") (by decide +kernel)) (fun _ h9 => h9) rfl dX10_stand_1 ?_
  refine lv_iload_n hx hb dX10_stand_4 rfl (lv_at hl 1 rfl) ?_
  refine lv_iload_n hx hb dX10_stand_5 rfl (lv_at hl 2 rfl) ?_
  refine kt_pi (wc := [(so, .inr (7, [.ref ru, .ref tr, .ref lk, .ref vp, .ref vd, .ref vt, .ref vg, .ref vw, .ref ve, .ref vo, .ref vq, .int 0, .int 0, .int 0, .int 0]))]) [1] hP hD hS hA rfl (by decide) (fun hPc hDc => va_runV (As := [.int p1, .int p2]) (rest := []) ⟨hx, hb, hml, hown, hts⟩ (f_X7_worthAt l D cI cZ cB H.size so ru tr lk vp vd vt vg vw ve vo vq p1 p2 ) (cwV 2 hts gX10_stand_X7_worthAt rfl rfl rfl (by decide +kernel) ⟨Nat.le_of_ble_eq_true rfl, Nat.le_of_ble_eq_true rfl⟩) (kt_preV hN hK hPc hDc 0 (ci := 7) (q := (RX7, TX7, 15)) rfl rfl) rfl rfl hl.1 rfl (lv_room (Nat.le_of_ble_eq_true rfl)) dX10_stand_6 ⟨Nat.le_of_ble_eq_true rfl, Nat.le_of_ble_eq_true rfl⟩) (fun r_6 _ H locs hw_6 hP hS => ?_)
  subst hw_6
  exact kt_ri () hx hb hr hlk hS dX10_stand_9 hP hD (by rfl)

def kt_about (w : Int32) : Int32 := if w = 5 then 9 else if w = 7 then 3 else if w = 1 ∨ w = 8 ∨ w.toInt < 0 ∨ 9 ≤ w.toInt then -1 else 0
theorem kt_about_out {w : Int32} (h : w.toInt < 0 ∨ 9 ≤ w.toInt) : -1 = kt_about w := by
  unfold kt_about
  rw [if_neg (fun e => by rw [e] at h; exact absurd h (by decide)), if_neg (fun e => by rw [e] at h; exact absurd h (by decide)), if_pos (Or.inr (Or.inr h))]

theorem iw_X10_about_X10 : ∀ w ∈ wsX100, w ∈ wsX10_about := by decide +kernel
theorem iw_X10_about_X4 : ∀ w ∈ wsX40, w ∈ wsX10_about := by decide +kernel
theorem iw_X10_about_X6 : ∀ w ∈ wsX60, w ∈ wsX10_about := by decide +kernel
theorem iw_X10_about_X3 : ∀ w ∈ wsX30, w ∈ wsX10_about := by decide +kernel
theorem iw_X10_about_X9 : ∀ w ∈ wsX90, w ∈ wsX10_about := by decide +kernel
set_option maxHeartbeats 4000000 in
set_option maxRecDepth 100000 in
theorem f_X10_about (l : Launch) (D : va_G) (cI cZ cB : ClassId) (sz : Nat) (kt : Nat) (to : Nat) (la : Nat) (ru : Nat) (pl : Nat) (ho : Nat) (so : Nat) (sg : Nat) (nw : Nat) (lo : Nat) (gr : Nat) (rk : Nat) (rs : Nat) (rt : Nat) (rv : Nat) (l0 : Nat) (l1 : Nat) (l2 : Nat) (l3 : Nat) (l4 : Nat) (l5 : Nat) (l6 : Nat) (p1 : Int32) : kt_Mi l yX10_about wsX10_about { frames := 1, cells := 0, slots := 0, locals := 22 } D (kt_ty cI cZ cB) [.ref kt, .int p1] sz [(kt, .inr (10, [.ref to, .ref la, .ref ru, .ref pl, .ref ho, .ref so])), (to, .inr (9, [.ref sg, .int 3, .int 3])), (pl, .inr (4, [.ref la, .ref ru, .ref nw, .ref lo, .int 0])), (ru, .inr (6, [.ref la, .ref gr, .ref rk, .ref rs, .ref rt, .int 0, .int (-1), .ref rv, .int 0])), (lo, .inr (3, [.ref l0, .ref l1, .ref l2, .ref l3, .ref l4, .ref l5, .ref l6, .int 0, .int 0]))] (fun (r : Int32) (u : Unit) => r = kt_about p1) (fun (u : Unit) => [(kt, .inr (10, [.ref to, .ref la, .ref ru, .ref pl, .ref ho, .ref so])), (to, .inr (9, [.ref sg, .int 3, .int 3])), (pl, .inr (4, [.ref la, .ref ru, .ref nw, .ref lo, .int 0])), (ru, .inr (6, [.ref la, .ref gr, .ref rk, .ref rs, .ref rt, .int 0, .int (-1), .ref rv, .int 0])), (lo, .inr (3, [.ref l0, .ref l1, .ref l2, .ref l3, .ref l4, .ref l5, .ref l6, .int 0, .int 0]))]) 0 0 := by
  refine kt_Mi.of (cc := cX10_about) (maxL := 2) (ret := some .int) (by decide) rfl (Nat.le_of_ble_eq_true rfl) ?_
  intro p e s m below meth c A ls H hAt hP hD hS hl
  obtain ⟨hx, hb, hr, hml, hown, hts, hN, hK, hlk, hnm, hA⟩ := hAt
  have hl : lv_has ls 2 [(0, .ref kt), (1, .int p1)] := hl
  have hown : s.vm.findClass RX10 = some m.cls := hown
  refine lv_iload_n hx hb dX10_about_0 rfl (lv_at hl 1 rfl) ?_
  rcases kt_sw p1 9 with hsw | ⟨hsw, hs2⟩
  · refine lv_tableOut (tgt := 144) hx hb dX10_about_1 (by omega) (by decide) ?_
    refine lv_iconst (v := (-1)) hx hb dX10_about_144 (by decide) ?_
    exact kt_ri () hx hb hr hlk hS dX10_about_145 hP hD (by first | exact kt_about_out hsw | (rw [ej]; decide))
  · obtain ⟨j, hj, ej⟩ : ∃ j : Nat, j < 9 ∧ p1 = nI j := ⟨p1.toInt.toNat, by omega, kt_nIof (by omega)⟩
    rcases (show j = 0 ∨ j = 1 ∨ j = 2 ∨ j = 3 ∨ j = 4 ∨ j = 5 ∨ j = 6 ∨ j = 7 ∨ j = 8 by omega) with rfl | rfl | rfl | rfl | rfl | rfl | rfl | rfl | rfl
    · have ej : p1 = 0 := ej
      refine lv_tableIn (tgt := 52) (off := 51) hx hb dX10_about_1 (by rw [ej]; decide) (by rw [ej]; decide) (by rw [ej]; rfl) (by decide) ?_
      refine lv_aload_n hx hb dX10_about_52 rfl (lv_at hl 0 rfl) ?_
      refine va_get (D := D) (ci := 10) (C := RX10) (T := TX10) (N := 6) hx hb hts iw_X10_about_X10 hown hK hP 0 rfl rfl 3 (by decide) (hts (.fieldLink RX10 37 "KingTable" "play" "LKingTable$Play;") (by decide +kernel)) (fun _ h9 => h9) rfl dX10_about_53 ?_
      refine va_getN (D := D) (ci := 4) (C := RX4) (T := TX4) (N := 5) hx hb hts iw_X10_about_X4 hown hK hP 2 rfl rfl 4 (by decide) (va_Nw.use (w := .fieldLinkNest RX10 101 "KingTable$Play" "state" "I" "KingTable") rfl (hN _ (by decide +kernel))) (fun _ h9 => h9) rfl dX10_about_56 ?_
      exact kt_ri () hx hb hr hlk hS dX10_about_59 hP hD (by first | exact kt_about_out hsw | (rw [ej]; decide))
    · have ej : p1 = 1 := ej
      refine lv_tableIn (tgt := 60) (off := 59) hx hb dX10_about_1 (by rw [ej]; decide) (by rw [ej]; decide) (by rw [ej]; rfl) (by decide) ?_
      refine lv_aload_n hx hb dX10_about_60 rfl (lv_at hl 0 rfl) ?_
      refine va_get (D := D) (ci := 10) (C := RX10) (T := TX10) (N := 6) hx hb hts iw_X10_about_X10 hown hK hP 0 rfl rfl 3 (by decide) (hts (.fieldLink RX10 37 "KingTable" "play" "LKingTable$Play;") (by decide +kernel)) (fun _ h9 => h9) rfl dX10_about_61 ?_
      refine kt_pi (wc := [(pl, .inr (4, [.ref la, .ref ru, .ref nw, .ref lo, .int 0]))]) [2] hP hD hS hA rfl (by decide) (fun hPc hDc => va_runV (As := []) (rest := []) ⟨hx, hb, hml, hown, hts⟩ (f_X4_sideOnTurn l D cI cZ cB H.size pl la ru nw lo ) (cwV 0 hts gX10_about_X4_sideOnTurn rfl rfl rfl (by decide +kernel) ⟨Nat.le_of_ble_eq_true rfl, Nat.le_of_ble_eq_true rfl⟩) (kt_preV hN hK hPc hDc 0 (ci := 4) (q := (RX4, TX4, 5)) rfl rfl) rfl rfl hl.1 rfl (lv_room (Nat.le_of_ble_eq_true rfl)) dX10_about_64 ⟨Nat.le_of_ble_eq_true rfl, Nat.le_of_ble_eq_true rfl⟩) (fun r_64 _ H locs hw_64 hP hS => ?_)
      subst hw_64
      exact kt_ri () hx hb hr hlk hS dX10_about_67 hP hD (by first | exact kt_about_out hsw | (rw [ej]; decide))
    · have ej : p1 = 2 := ej
      refine lv_tableIn (tgt := 68) (off := 67) hx hb dX10_about_1 (by rw [ej]; decide) (by rw [ej]; decide) (by rw [ej]; rfl) (by decide) ?_
      refine lv_aload_n hx hb dX10_about_68 rfl (lv_at hl 0 rfl) ?_
      refine va_get (D := D) (ci := 10) (C := RX10) (T := TX10) (N := 6) hx hb hts iw_X10_about_X10 hown hK hP 0 rfl rfl 2 (by decide) (hts (.fieldLink RX10 28 "KingTable" "rules" "LKingTable$Rules;") (by decide +kernel)) (fun _ h9 => h9) rfl dX10_about_69 ?_
      refine va_getN (D := D) (ci := 6) (C := RX6) (T := TX6) (N := 9) hx hb hts iw_X10_about_X6 hown hK hP 3 rfl rfl 5 (by decide) (va_Nw.use (w := .fieldLinkNest RX10 90 "KingTable$Rules" "total" "I" "KingTable") rfl (hN _ (by decide +kernel))) (fun _ h9 => h9) rfl dX10_about_72 ?_
      exact kt_ri () hx hb hr hlk hS dX10_about_75 hP hD (by first | exact kt_about_out hsw | (rw [ej]; decide))
    · have ej : p1 = 3 := ej
      refine lv_tableIn (tgt := 76) (off := 75) hx hb dX10_about_1 (by rw [ej]; decide) (by rw [ej]; decide) (by rw [ej]; rfl) (by decide) ?_
      refine lv_aload_n hx hb dX10_about_76 rfl (lv_at hl 0 rfl) ?_
      refine va_get (D := D) (ci := 10) (C := RX10) (T := TX10) (N := 6) hx hb hts iw_X10_about_X10 hown hK hP 0 rfl rfl 3 (by decide) (hts (.fieldLink RX10 37 "KingTable" "play" "LKingTable$Play;") (by decide +kernel)) (fun _ h9 => h9) rfl dX10_about_77 ?_
      refine kt_pi (wc := [(pl, .inr (4, [.ref la, .ref ru, .ref nw, .ref lo, .int 0])), (ru, .inr (6, [.ref la, .ref gr, .ref rk, .ref rs, .ref rt, .int 0, .int (-1), .ref rv, .int 0]))]) [2, 3] hP hD hS hA rfl (by decide) (fun hPc hDc => va_runV (As := []) (rest := []) ⟨hx, hb, hml, hown, hts⟩ (f_X4_lost l D cI cZ cB H.size pl la ru nw lo gr rk rs rt rv ) (cwV 0 hts gX10_about_X4_lost rfl rfl rfl (by decide +kernel) ⟨Nat.le_of_ble_eq_true rfl, Nat.le_of_ble_eq_true rfl⟩) (kt_preV hN hK hPc hDc 0 (ci := 4) (q := (RX4, TX4, 5)) rfl rfl) rfl rfl hl.1 rfl (lv_room (Nat.le_of_ble_eq_true rfl)) dX10_about_80 ⟨Nat.le_of_ble_eq_true rfl, Nat.le_of_ble_eq_true rfl⟩) (fun r_80 _ H locs hw_80 hP hS => ?_)
      subst hw_80
      exact kt_ri () hx hb hr hlk hS dX10_about_83 hP hD (by first | exact kt_about_out hsw | (rw [ej]; decide))
    · have ej : p1 = 4 := ej
      refine lv_tableIn (tgt := 84) (off := 83) hx hb dX10_about_1 (by rw [ej]; decide) (by rw [ej]; decide) (by rw [ej]; rfl) (by decide) ?_
      refine lv_aload_n hx hb dX10_about_84 rfl (lv_at hl 0 rfl) ?_
      refine va_get (D := D) (ci := 10) (C := RX10) (T := TX10) (N := 6) hx hb hts iw_X10_about_X10 hown hK hP 0 rfl rfl 3 (by decide) (hts (.fieldLink RX10 37 "KingTable" "play" "LKingTable$Play;") (by decide +kernel)) (fun _ h9 => h9) rfl dX10_about_85 ?_
      refine va_getN (D := D) (ci := 4) (C := RX4) (T := TX4) (N := 5) hx hb hts iw_X10_about_X4 hown hK hP 2 rfl rfl 3 (by decide) (va_Nw.use (w := .fieldLinkNest RX10 111 "KingTable$Play" "log" "LKingTable$Log;" "KingTable") rfl (hN _ (by decide +kernel))) (fun _ h9 => h9) rfl dX10_about_88 ?_
      refine va_getN (D := D) (ci := 3) (C := RX3) (T := TX3) (N := 9) hx hb hts iw_X10_about_X3 hown hK hP 4 rfl rfl 7 (by decide) (va_Nw.use (w := .fieldLinkNest RX10 115 "KingTable$Log" "done" "I" "KingTable") rfl (hN _ (by decide +kernel))) (fun _ h9 => h9) rfl dX10_about_91 ?_
      exact kt_ri () hx hb hr hlk hS dX10_about_94 hP hD (by first | exact kt_about_out hsw | (rw [ej]; decide))
    · have ej : p1 = 5 := ej
      refine lv_tableIn (tgt := 95) (off := 94) hx hb dX10_about_1 (by rw [ej]; decide) (by rw [ej]; decide) (by rw [ej]; rfl) (by decide) ?_
      refine lv_aload_n hx hb dX10_about_95 rfl (lv_at hl 0 rfl) ?_
      refine va_get (D := D) (ci := 10) (C := RX10) (T := TX10) (N := 6) hx hb hts iw_X10_about_X10 hown hK hP 0 rfl rfl 0 (by decide) (hts (.fieldLink RX10 10 "KingTable" "told" "LKingTable$Told;") (by decide +kernel)) (fun _ h9 => h9) rfl dX10_about_96 ?_
      refine kt_pi (wc := [(to, .inr (9, [.ref sg, .int 3, .int 3]))]) [1] hP hD hS hA rfl (by decide) (fun hPc hDc => va_runV (As := []) (rest := []) ⟨hx, hb, hml, hown, hts⟩ (f_X9_size l D cI cZ cB H.size to sg ) (cwV 0 hts gX10_about_X9_size rfl rfl rfl (by decide +kernel) ⟨Nat.le_of_ble_eq_true rfl, Nat.le_of_ble_eq_true rfl⟩) (kt_preV hN hK hPc hDc 0 (ci := 9) (q := (RX9, TX9, 3)) rfl rfl) rfl rfl hl.1 rfl (lv_room (Nat.le_of_ble_eq_true rfl)) dX10_about_99 ⟨Nat.le_of_ble_eq_true rfl, Nat.le_of_ble_eq_true rfl⟩) (fun r_99 _ H locs hw_99 hP hS => ?_)
      subst hw_99
      exact kt_ri () hx hb hr hlk hS dX10_about_102 hP hD (by first | exact kt_about_out hsw | (rw [ej]; decide))
    · have ej : p1 = 6 := ej
      refine lv_tableIn (tgt := 103) (off := 102) hx hb dX10_about_1 (by rw [ej]; decide) (by rw [ej]; decide) (by rw [ej]; rfl) (by decide) ?_
      refine lv_aload_n hx hb dX10_about_103 rfl (lv_at hl 0 rfl) ?_
      refine va_get (D := D) (ci := 10) (C := RX10) (T := TX10) (N := 6) hx hb hts iw_X10_about_X10 hown hK hP 0 rfl rfl 3 (by decide) (hts (.fieldLink RX10 37 "KingTable" "play" "LKingTable$Play;") (by decide +kernel)) (fun _ h9 => h9) rfl dX10_about_104 ?_
      refine va_getN (D := D) (ci := 4) (C := RX4) (T := TX4) (N := 5) hx hb hts iw_X10_about_X4 hown hK hP 2 rfl rfl 3 (by decide) (va_Nw.use (w := .fieldLinkNest RX10 111 "KingTable$Play" "log" "LKingTable$Log;" "KingTable") rfl (hN _ (by decide +kernel))) (fun _ h9 => h9) rfl dX10_about_107 ?_
      refine va_getN (D := D) (ci := 3) (C := RX3) (T := TX3) (N := 9) hx hb hts iw_X10_about_X3 hown hK hP 4 rfl rfl 8 (by decide) (va_Nw.use (w := .fieldLinkNest RX10 123 "KingTable$Log" "known" "I" "KingTable") rfl (hN _ (by decide +kernel))) (fun _ h9 => h9) rfl dX10_about_110 ?_
      refine lv_aload_n hx hb dX10_about_113 rfl (lv_at hl 0 rfl) ?_
      refine va_get (D := D) (ci := 10) (C := RX10) (T := TX10) (N := 6) hx hb hts iw_X10_about_X10 hown hK hP 0 rfl rfl 3 (by decide) (hts (.fieldLink RX10 37 "KingTable" "play" "LKingTable$Play;") (by decide +kernel)) (fun _ h9 => h9) rfl dX10_about_114 ?_
      refine va_getN (D := D) (ci := 4) (C := RX4) (T := TX4) (N := 5) hx hb hts iw_X10_about_X4 hown hK hP 2 rfl rfl 3 (by decide) (va_Nw.use (w := .fieldLinkNest RX10 111 "KingTable$Play" "log" "LKingTable$Log;" "KingTable") rfl (hN _ (by decide +kernel))) (fun _ h9 => h9) rfl dX10_about_117 ?_
      refine va_getN (D := D) (ci := 3) (C := RX3) (T := TX3) (N := 9) hx hb hts iw_X10_about_X3 hown hK hP 4 rfl rfl 7 (by decide) (va_Nw.use (w := .fieldLinkNest RX10 115 "KingTable$Log" "done" "I" "KingTable") rfl (hN _ (by decide +kernel))) (fun _ h9 => h9) rfl dX10_about_120 ?_
      refine lv_isub hx hb dX10_about_123 ?_
      refine W.eq (g2 := F0 m 124 ls (.int 0 :: [])) rfl ?_
      exact kt_ri () hx hb hr hlk hS dX10_about_124 hP hD (by first | exact kt_about_out hsw | (rw [ej]; decide))
    · have ej : p1 = 7 := ej
      refine lv_tableIn (tgt := 125) (off := 124) hx hb dX10_about_1 (by rw [ej]; decide) (by rw [ej]; decide) (by rw [ej]; rfl) (by decide) ?_
      refine lv_aload_n hx hb dX10_about_125 rfl (lv_at hl 0 rfl) ?_
      refine va_get (D := D) (ci := 10) (C := RX10) (T := TX10) (N := 6) hx hb hts iw_X10_about_X10 hown hK hP 0 rfl rfl 0 (by decide) (hts (.fieldLink RX10 10 "KingTable" "told" "LKingTable$Told;") (by decide +kernel)) (fun _ h9 => h9) rfl dX10_about_126 ?_
      refine va_getN (D := D) (ci := 9) (C := RX9) (T := TX9) (N := 3) hx hb hts iw_X10_about_X9 hown hK hP 1 rfl rfl 1 (by decide) (va_Nw.use (w := .fieldLinkNest RX10 126 "KingTable$Told" "lines" "I" "KingTable") rfl (hN _ (by decide +kernel))) (fun _ h9 => h9) rfl dX10_about_129 ?_
      exact kt_ri () hx hb hr hlk hS dX10_about_132 hP hD (by first | exact kt_about_out hsw | (rw [ej]; decide))
    · have ej : p1 = 8 := ej
      refine lv_tableIn (tgt := 133) (off := 132) hx hb dX10_about_1 (by rw [ej]; decide) (by rw [ej]; decide) (by rw [ej]; rfl) (by decide) ?_
      refine lv_aload_n hx hb dX10_about_133 rfl (lv_at hl 0 rfl) ?_
      refine va_get (D := D) (ci := 10) (C := RX10) (T := TX10) (N := 6) hx hb hts iw_X10_about_X10 hown hK hP 0 rfl rfl 3 (by decide) (hts (.fieldLink RX10 37 "KingTable" "play" "LKingTable$Play;") (by decide +kernel)) (fun _ h9 => h9) rfl dX10_about_134 ?_
      refine va_getN (D := D) (ci := 4) (C := RX4) (T := TX4) (N := 5) hx hb hts iw_X10_about_X4 hown hK hP 2 rfl rfl 3 (by decide) (va_Nw.use (w := .fieldLinkNest RX10 111 "KingTable$Play" "log" "LKingTable$Log;" "KingTable") rfl (hN _ (by decide +kernel))) (fun _ h9 => h9) rfl dX10_about_137 ?_
      refine kt_pi (wc := [(lo, .inr (3, [.ref l0, .ref l1, .ref l2, .ref l3, .ref l4, .ref l5, .ref l6, .int 0, .int 0]))]) [4] hP hD hS hA rfl (by decide) (fun hPc hDc => va_runV (As := []) (rest := []) ⟨hx, hb, hml, hown, hts⟩ (f_X3_latestTakings l D cI cZ cB H.size lo l0 l1 l2 l3 l4 l5 l6 ) (cwV 0 hts gX10_about_X3_latestTakings rfl rfl rfl (by decide +kernel) ⟨Nat.le_of_ble_eq_true rfl, Nat.le_of_ble_eq_true rfl⟩) (kt_preV hN hK hPc hDc 0 (ci := 3) (q := (RX3, TX3, 9)) rfl rfl) rfl rfl hl.1 rfl (lv_room (Nat.le_of_ble_eq_true rfl)) dX10_about_140 ⟨Nat.le_of_ble_eq_true rfl, Nat.le_of_ble_eq_true rfl⟩) (fun r_140 _ H locs hw_140 hP hS => ?_)
      subst hw_140
      exact kt_ri () hx hb hr hlk hS dX10_about_143 hP hD (by first | exact kt_about_out hsw | (rw [ej]; decide))
