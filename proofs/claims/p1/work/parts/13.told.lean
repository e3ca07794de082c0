theorem iw_X9_tell_X9 : ∀ w ∈ wsX90, w ∈ wsX9_tell := by decide +kernel
set_option maxHeartbeats 4000000 in
set_option maxRecDepth 100000 in
theorem f_X9_tell (l : Launch) (D : va_G) (cI cZ cB : ClassId) (sz : Nat) (to : Nat) (sg : Nat) (p1 : Int32) (p2 : Int32) (p3 : Int32) : kt_Mi l yX9_tell wsX9_tell { frames := 0, cells := 0, slots := 0, locals := 0 } D (kt_ty cI cZ cB) [.ref to, .int p1, .int p2, .int p3] sz [(to, .inr (9, [.ref sg, .int 3, .int 3])), (sg, .inl (cI, 81, .inl (fun _ => 0)))] (fun (r : Int32) (u : (Nat → Int32)) => kt_B r (0 ≤ p1 ∧ p1 < 3 ∧ 0 ≤ p2 ∧ p2 ≤ 3)) (fun (u : (Nat → Int32)) => [(to, .inr (9, [.ref sg, .int 3, .int 3])), (sg, .inl (cI, 81, .inl u))]) 0 0 := by
  refine kt_Mi.of (cc := cX9_tell) (maxL := 5) (ret := some .boolean) (by decide) rfl (Nat.le_of_ble_eq_true rfl) ?_
  intro p e s m below meth c A ls H hAt hP hD hS hl
  obtain ⟨hx, hb, hr, hml, hown, hts, hN, hK, hlk, hnm, hA⟩ := hAt
  have hl : lv_has ls 5 [(0, .ref to), (1, .int p1), (2, .int p2), (3, .int p3)] := hl
  have hown : s.vm.findClass RX9 = some m.cls := hown
  refine lv_iload_n hx hb dX9_tell_0 rfl (lv_at hl 1 rfl) ?_
  refine lv_if_lt (tgt := 24) hx hb dX9_tell_1 (by decide) (fun c_1 => ?_) (fun c_1 => ?_)
  · refine lv_iconst (v := 0) hx hb dX9_tell_24 (by decide) ?_
    exact kt_rz (fun _ => 0) hx hb hr hlk hS dX9_tell_25 hP hD (by first | exact Or.inl ⟨rfl, by (simp only [kt_lt, kt_le, kt_eq, kt_c0 , kt_c1 , kt_c2 , kt_c3 , kt_c4 , kt_c8 , kt_c9 , kt_cm1 , kt_c81 , kt_c40 , kt_c7 , kt_c5 , kt_c6] at *; omega)⟩ | exact Or.inr ⟨rfl, by (simp only [kt_lt, kt_le, kt_eq, kt_c0 , kt_c1 , kt_c2 , kt_c3 , kt_c4 , kt_c8 , kt_c9 , kt_cm1 , kt_c81 , kt_c40 , kt_c7 , kt_c5 , kt_c6] at *; omega)⟩) rfl
  · refine lv_iload_n hx hb dX9_tell_4 rfl (lv_at hl 1 rfl) ?_
    refine lv_aload_n hx hb dX9_tell_5 rfl (lv_at hl 0 rfl) ?_
    refine va_get (D := D) (ci := 9) (C := RX9) (T := TX9) (N := 3) hx hb hts iw_X9_tell_X9 hown hK hP 0 rfl rfl 1 (by decide) (hts (.fieldLink RX9 15 "KingTable$Told" "lines" "I") (by decide +kernel)) (fun _ h9 => h9) rfl dX9_tell_6 ?_
    refine lv_icmp_ge (tgt := 24) hx hb dX9_tell_9 (by decide) (fun c_9 => ?_) (fun c_9 => ?_)
    · refine lv_iconst (v := 0) hx hb dX9_tell_24 (by decide) ?_
      exact kt_rz (fun _ => 0) hx hb hr hlk hS dX9_tell_25 hP hD (by first | exact Or.inl ⟨rfl, by (simp only [kt_lt, kt_le, kt_eq, kt_c0 , kt_c1 , kt_c2 , kt_c3 , kt_c4 , kt_c8 , kt_c9 , kt_cm1 , kt_c81 , kt_c40 , kt_c7 , kt_c5 , kt_c6] at *; omega)⟩ | exact Or.inr ⟨rfl, by (simp only [kt_lt, kt_le, kt_eq, kt_c0 , kt_c1 , kt_c2 , kt_c3 , kt_c4 , kt_c8 , kt_c9 , kt_cm1 , kt_c81 , kt_c40 , kt_c7 , kt_c5 , kt_c6] at *; omega)⟩) rfl
    · refine lv_iload_n hx hb dX9_tell_12 rfl (lv_at hl 2 rfl) ?_
      refine lv_if_lt (tgt := 24) hx hb dX9_tell_13 (by decide) (fun c_13 => ?_) (fun c_13 => ?_)
      · refine lv_iconst (v := 0) hx hb dX9_tell_24 (by decide) ?_
        exact kt_rz (fun _ => 0) hx hb hr hlk hS dX9_tell_25 hP hD (by first | exact Or.inl ⟨rfl, by (simp only [kt_lt, kt_le, kt_eq, kt_c0 , kt_c1 , kt_c2 , kt_c3 , kt_c4 , kt_c8 , kt_c9 , kt_cm1 , kt_c81 , kt_c40 , kt_c7 , kt_c5 , kt_c6] at *; omega)⟩ | exact Or.inr ⟨rfl, by (simp only [kt_lt, kt_le, kt_eq, kt_c0 , kt_c1 , kt_c2 , kt_c3 , kt_c4 , kt_c8 , kt_c9 , kt_cm1 , kt_c81 , kt_c40 , kt_c7 , kt_c5 , kt_c6] at *; omega)⟩) rfl
      · refine lv_iload_n hx hb dX9_tell_16 rfl (lv_at hl 2 rfl) ?_
        refine lv_aload_n hx hb dX9_tell_17 rfl (lv_at hl 0 rfl) ?_
        refine va_get (D := D) (ci := 9) (C := RX9) (T := TX9) (N := 3) hx hb hts iw_X9_tell_X9 hown hK hP 0 rfl rfl 2 (by decide) (hts (.fieldLink RX9 19 "KingTable$Told" "width" "I") (by decide +kernel)) (fun _ h9 => h9) rfl dX9_tell_18 ?_
        refine lv_icmp_le (tgt := 26) hx hb dX9_tell_21 (by decide) (fun c_21 => ?_) (fun c_21 => ?_)
        · refine lv_iconst (v := 0) hx hb dX9_tell_26 (by decide) ?_
          refine lv_istore (lv' := [(4, .int 0), (0, .ref to), (1, .int p1), (2, .int p2), (3, .int p3)]) hx hb dX9_tell_27 hl (by decide) rfl (fun ls hl => ?_)
          refine kt_loop (σ := Nat × (Nat → Int32)) 29 5 (fun u => [(to, .inr (9, [.ref sg, .int 3, .int 3])), (sg, .inl (cI, 81, .inl u.2))]) (fun u => [(4, .int (nI u.1)), (0, .ref to), (1, .int p1), (2, .int p2), (3, .int p3)]) (fun n u => u.1 ≤ 3 ∧ 3 < u.1 + n) (fun u h => by omega) (fun n ih_29 u hI H locs hP hD hS ls hl => ?_) (4) (0, (fun _ => 0)) (by show 0 ≤ 3 ∧ 3 < 0 + 4; exact ⟨by decide, by decide⟩) hP hD hS (lv_sub hl [0, 1, 2, 3, 4] rfl)
          obtain ⟨k, g⟩ := u
          have hP : va_P D vwCl [(to, .inr (9, [.ref sg, .int 3, .int 3])), (sg, .inl (cI, 81, .inl g))] H := hP
          have hD : va_D A [(to, .inr (9, [.ref sg, .int 3, .int 3])), (sg, .inl (cI, 81, .inl g))] := hD
          have hl : lv_has ls 5 [(4, .int (nI k)), (0, .ref to), (1, .int p1), (2, .int p2), (3, .int p3)] := hl
          have hI : k ≤ 3 ∧ 3 < k + (n + 1) := hI
          refine lv_iload hx hb dX9_tell_29 (lv_at hl 0 rfl) ?_
          refine lv_aload_n hx hb dX9_tell_31 rfl (lv_at hl 1 rfl) ?_
          refine va_get (D := D) (ci := 9) (C := RX9) (T := TX9) (N := 3) hx hb hts iw_X9_tell_X9 hown hK hP 0 rfl rfl 2 (by decide) (hts (.fieldLink RX9 19 "KingTable$Told" "width" "I") (by decide +kernel)) (fun _ h9 => h9) rfl dX9_tell_32 ?_
          refine lv_icmp_ge (tgt := 77) hx hb dX9_tell_35 (by decide) (fun c_35 => ?_) (fun c_35 => ?_)
          · refine lv_iconst (v := 1) hx hb dX9_tell_77 (by decide) ?_
            exact kt_rz g hx hb hr hlk hS dX9_tell_78 hP hD (by first | exact Or.inl ⟨rfl, by (simp only [kt_lt, kt_le, kt_eq, kt_c0 , kt_c1 , kt_c2 , kt_c3 , kt_c4 , kt_c8 , kt_c9 , kt_cm1 , kt_c81 , kt_c40 , kt_c7 , kt_c5 , kt_c6] at *; omega)⟩ | exact Or.inr ⟨rfl, by (simp only [kt_lt, kt_le, kt_eq, kt_c0 , kt_c1 , kt_c2 , kt_c3 , kt_c4 , kt_c8 , kt_c9 , kt_cm1 , kt_c81 , kt_c40 , kt_c7 , kt_c5 , kt_c6] at *; omega)⟩) rfl
          · have hk : k < 3 := by
              rcases Nat.lt_or_ge k 3 with q | q
              · exact q
              · exact absurd (nI_le q (by omega)) c_35
            refine lv_aload_n hx hb dX9_tell_38 rfl (lv_at hl 1 rfl) ?_
            refine va_get (D := D) (ci := 9) (C := RX9) (T := TX9) (N := 3) hx hb hts iw_X9_tell_X9 hown hK hP 0 rfl rfl 0 (by decide) (hts (.fieldLink RX9 9 "KingTable$Told" "signs" "[I") (by decide +kernel)) (fun _ h9 => h9) rfl dX9_tell_39 ?_
            refine lv_iload_n hx hb dX9_tell_42 rfl (lv_at hl 2 rfl) ?_
            refine lv_aload_n hx hb dX9_tell_43 rfl (lv_at hl 1 rfl) ?_
            refine va_get (D := D) (ci := 9) (C := RX9) (T := TX9) (N := 3) hx hb hts iw_X9_tell_X9 hown hK hP 0 rfl rfl 2 (by decide) (hts (.fieldLink RX9 19 "KingTable$Told" "width" "I") (by decide +kernel)) (fun _ h9 => h9) rfl dX9_tell_44 ?_
            refine lv_imul hx hb dX9_tell_47 ?_
            refine lv_iload hx hb dX9_tell_48 (lv_at hl 0 rfl) ?_
            refine lv_iadd hx hb dX9_tell_50 ?_
            refine lv_iload hx hb dX9_tell_51 (lv_at hl 0 rfl) ?_
            refine lv_iload_n hx hb dX9_tell_53 rfl (lv_at hl 3 rfl) ?_
            refine lv_icmp_ge (tgt := 69) hx hb dX9_tell_54 (by decide) (fun c_54 => ?_) (fun c_54 => ?_)
            · refine lv_iconst (v := 0) hx hb dX9_tell_69 (by decide) ?_
              have hi_1 : vp_in ((p1 * 3) + (nI k)) 81 := by obtain ⟨r0, hr0, er0⟩ : ∃ r0 : Nat, r0 < 3 ∧ p1 = nI r0 := ⟨p1.toInt.toNat, by (simp only [kt_lt, kt_le, kt_eq, kt_c0 , kt_c1 , kt_c2 , kt_c3 , kt_c4 , kt_c8 , kt_c9 , kt_cm1 , kt_c81 , kt_c40 , kt_c7 , kt_c5 , kt_c6] at *; omega), kt_nIof (by (simp only [kt_lt, kt_le, kt_eq, kt_c0 , kt_c1 , kt_c2 , kt_c3 , kt_c4 , kt_c8 , kt_c9 , kt_cm1 , kt_c81 , kt_c40 , kt_c7 , kt_c5 , kt_c6] at *; omega))⟩; rw [show p1 * 3 + nI k = nI (r0 * 3 + k) by rw [er0, show (3 : Int32) = nI 3 from rfl, pk_mul, nI_add]]; exact vp_in_nI (by omega) (by omega)
              refine va_iast hx hb hK hP hD hS 1 0 rfl rfl hi_1 dX9_tell_70 (fun H locs hP hD hS => ?_)
              have hP : va_P D vwCl [(to, .inr (9, [.ref sg, .int 3, .int 3])), (sg, .inl (cI, 81, .inl (upd g ((p1 * 3) + (nI k)).toNatClampNeg 0)))] H := hP
              have hD : va_D A [(to, .inr (9, [.ref sg, .int 3, .int 3])), (sg, .inl (cI, 81, .inl (upd g ((p1 * 3) + (nI k)).toNatClampNeg 0)))] := hD
              refine lv_iinc (v := nI (k + 1)) (lv' := [(4, .int (nI (k + 1))), (0, .ref to), (1, .int p1), (2, .int p2), (3, .int p3)]) hx hb dX9_tell_71 hl (k := 0) rfl (nI_1 _) (by decide) rfl (fun ls hl => ?_)
              refine lv_goto (tgt := 29) hx hb dX9_tell_74 (by decide) ?_
              exact ih_29 ((k + 1), (upd g ((p1 * 3) + (nI k)).toNatClampNeg 0)) (by show (k + 1) ≤ 3 ∧ 3 < (k + 1) + n; omega) H _ hP hD hS ls (lv_sub hl [0, 1, 2, 3, 4] rfl)
            · refine lv_iload_n hx hb dX9_tell_57 rfl (lv_at hl 4 rfl) ?_
              refine lv_iconst (v := 3) hx hb dX9_tell_58 (by decide) ?_
              refine lv_iload hx hb dX9_tell_59 (lv_at hl 0 rfl) ?_
              refine lv_imul hx hb dX9_tell_61 ?_
              refine lv_ishr hx hb dX9_tell_62 ?_
              refine lv_bipush (v := 7) hx hb dX9_tell_63 (by decide) ?_
              refine lv_iand hx hb dX9_tell_65 ?_
              refine lv_goto (tgt := 70) hx hb dX9_tell_66 (by decide) ?_
              have hi_2 : vp_in ((p1 * 3) + (nI k)) 81 := by obtain ⟨r0, hr0, er0⟩ : ∃ r0 : Nat, r0 < 3 ∧ p1 = nI r0 := ⟨p1.toInt.toNat, by (simp only [kt_lt, kt_le, kt_eq, kt_c0 , kt_c1 , kt_c2 , kt_c3 , kt_c4 , kt_c8 , kt_c9 , kt_cm1 , kt_c81 , kt_c40 , kt_c7 , kt_c5 , kt_c6] at *; omega), kt_nIof (by (simp only [kt_lt, kt_le, kt_eq, kt_c0 , kt_c1 , kt_c2 , kt_c3 , kt_c4 , kt_c8 , kt_c9 , kt_cm1 , kt_c81 , kt_c40 , kt_c7 , kt_c5 , kt_c6] at *; omega))⟩; rw [show p1 * 3 + nI k = nI (r0 * 3 + k) by rw [er0, show (3 : Int32) = nI 3 from rfl, pk_mul, nI_add]]; exact vp_in_nI (by omega) (by omega)
              refine va_iast hx hb hK hP hD hS 1 0 rfl rfl hi_2 dX9_tell_70 (fun H locs hP hD hS => ?_)
              have hP : va_P D vwCl [(to, .inr (9, [.ref sg, .int 3, .int 3])), (sg, .inl (cI, 81, .inl (upd g ((p1 * 3) + (nI k)).toNatClampNeg ((p3 >>> ((3 * (nI k)) &&& 31)) &&& 7))))] H := hP
              have hD : va_D A [(to, .inr (9, [.ref sg, .int 3, .int 3])), (sg, .inl (cI, 81, .inl (upd g ((p1 * 3) + (nI k)).toNatClampNeg ((p3 >>> ((3 * (nI k)) &&& 31)) &&& 7))))] := hD
              refine lv_iinc (v := nI (k + 1)) (lv' := [(4, .int (nI (k + 1))), (0, .ref to), (1, .int p1), (2, .int p2), (3, .int p3)]) hx hb dX9_tell_71 hl (k := 0) rfl (nI_1 _) (by decide) rfl (fun ls hl => ?_)
              refine lv_goto (tgt := 29) hx hb dX9_tell_74 (by decide) ?_
              exact ih_29 ((k + 1), (upd g ((p1 * 3) + (nI k)).toNatClampNeg ((p3 >>> ((3 * (nI k)) &&& 31)) &&& 7))) (by show (k + 1) ≤ 3 ∧ 3 < (k + 1) + n; omega) H _ hP hD hS ls (lv_sub hl [0, 1, 2, 3, 4] rfl)
        · refine lv_iconst (v := 0) hx hb dX9_tell_24 (by decide) ?_
          exact kt_rz (fun _ => 0) hx hb hr hlk hS dX9_tell_25 hP hD (by first | exact Or.inl ⟨rfl, by (simp only [kt_lt, kt_le, kt_eq, kt_c0 , kt_c1 , kt_c2 , kt_c3 , kt_c4 , kt_c8 , kt_c9 , kt_cm1 , kt_c81 , kt_c40 , kt_c7 , kt_c5 , kt_c6] at *; omega)⟩ | exact Or.inr ⟨rfl, by (simp only [kt_lt, kt_le, kt_eq, kt_c0 , kt_c1 , kt_c2 , kt_c3 , kt_c4 , kt_c8 , kt_c9 , kt_cm1 , kt_c81 , kt_c40 , kt_c7 , kt_c5 , kt_c6] at *; omega)⟩) rfl

theorem iw_X1_change_X1 : ∀ w ∈ wsX10, w ∈ wsX1_change := by decide +kernel
set_option maxHeartbeats 4000000 in
set_option maxRecDepth 100000 in
theorem c_X1_change (l : Launch) (D : va_G) (cI cZ cB : ClassId) (sz : Nat) (la : Nat) (o1 : Int32) (o2 : Int32) (o3 : Int32) (o4 : Int32) (o5 : Int32) (p1 : Int32) (p2 : Int32) (p3 : Int32) (p4 : Int32) (p5 : Int32) (hz : narrow .boolean (.int p3) = .int p3) (hf : fits .boolean (.int p3) = true) : kt_Mi l yX1_change wsX1_change { frames := 0, cells := 0, slots := 0, locals := 0 } D (kt_ty cI cZ cB) [.ref la, .int p1, .int p2, .int p3, .int p4, .int p5] sz [(la, .inr (1, [.int o1, .int o2, .int o3, .int o4, .int o5]))] (fun (r : Int32) (u : Int32 × Int32 × Int32 × Int32 × Int32) => kt_B r ((p1 = 0 ∨ p1 = 1) ∧ (p2 = 2 ∨ p2 = 4) ∧ 0 ≤ p4 ∧ p4 ≤ 8 ∧ (p5 = 0 ∨ p5 = 1))) (fun (u : Int32 × Int32 × Int32 × Int32 × Int32) => [(la, .inr (1, [.int u.1, .int u.2.1, .int u.2.2.1, .int u.2.2.2.1, .int u.2.2.2.2]))]) 0 0 := by
  refine kt_Mi.of (cc := cX1_change) (maxL := 7) (ret := some .boolean) (by decide) rfl (Nat.le_of_ble_eq_true rfl) ?_
  intro p e s m below meth c A ls H hAt hP hD hS hl
  obtain ⟨hx, hb, hr, hml, hown, hts, hN, hK, hlk, hnm, hA⟩ := hAt
  have hl : lv_has ls 7 [(0, .ref la), (1, .int p1), (2, .int p2), (3, .int p3), (4, .int p4), (5, .int p5)] := hl
  have hown : s.vm.findClass RX1 = some m.cls := hown
  refine lv_iload_n hx hb dX1_change_0 rfl (lv_at hl 1 rfl) ?_
  refine kt_join (σ := Unit) 9 7 (fun u => [(la, .inr (1, [.int o1, .int o2, .int o3, .int o4, .int o5]))]) (fun u => [(0, .ref la), (1, .int p1), (2, .int p2), (3, .int p3), (4, .int p4), (5, .int p5)]) (fun u => []) (fun u => p1 = 0 ∨ p1 = 1) (D := D) (A := A) (H0 := s.heap) (fun u hI H locs hP hD hS ls hl => ?_) (fun j_9 => ?_)
  · have hP : va_P D vwCl [(la, .inr (1, [.int o1, .int o2, .int o3, .int o4, .int o5]))] H := hP
    have hD : va_D A [(la, .inr (1, [.int o1, .int o2, .int o3, .int o4, .int o5]))] := hD
    have hl : lv_has ls 7 [(0, .ref la), (1, .int p1), (2, .int p2), (3, .int p3), (4, .int p4), (5, .int p5)] := hl
    have hI : p1 = 0 ∨ p1 = 1 := hI
    have hI9 := hI
    refine lv_iload_n hx hb dX1_change_9 rfl (lv_at hl 2 rfl) ?_
    refine lv_iconst (v := 2) hx hb dX1_change_10 (by decide) ?_
    refine kt_join (σ := Unit) 19 7 (fun u => [(la, .inr (1, [.int o1, .int o2, .int o3, .int o4, .int o5]))]) (fun u => [(0, .ref la), (1, .int p1), (2, .int p2), (3, .int p3), (4, .int p4), (5, .int p5)]) (fun u => []) (fun u => p2 = 2 ∨ p2 = 4) (D := D) (A := A) (H0 := s.heap) (fun u hI H locs hP hD hS ls hl => ?_) (fun j_19 => ?_)
    · have hP : va_P D vwCl [(la, .inr (1, [.int o1, .int o2, .int o3, .int o4, .int o5]))] H := hP
      have hD : va_D A [(la, .inr (1, [.int o1, .int o2, .int o3, .int o4, .int o5]))] := hD
      have hl : lv_has ls 7 [(0, .ref la), (1, .int p1), (2, .int p2), (3, .int p3), (4, .int p4), (5, .int p5)] := hl
      have hI : p2 = 2 ∨ p2 = 4 := hI
      have hI19 := hI
      refine lv_iload hx hb dX1_change_19 (lv_at hl 4 rfl) ?_
      refine lv_if_lt (tgt := 46) hx hb dX1_change_21 (by decide) (fun c_21 => ?_) (fun c_21 => ?_)
      · refine lv_iconst (v := 0) hx hb dX1_change_46 (by decide) ?_
        refine lv_istore (lv' := [(6, .int 0), (0, .ref la), (1, .int p1), (2, .int p2), (3, .int p3), (4, .int p4), (5, .int p5)]) hx hb dX1_change_47 hl (by decide) rfl (fun ls hl => ?_)
        refine lv_iload hx hb dX1_change_49 (lv_at hl 0 rfl) ?_
        refine lv_if_ne (tgt := 56) hx hb dX1_change_51 (by decide) (fun c_51 => absurd c_51 (by decide)) (fun c_51 => ?_)
        refine lv_iconst (v := 0) hx hb dX1_change_54 (by decide) ?_
        exact kt_rz (o1, o2, o3, o4, o5) hx hb hr hlk hS dX1_change_55 hP hD (by first | exact Or.inl ⟨rfl, by (simp only [kt_lt, kt_le, kt_eq, kt_c0 , kt_c1 , kt_c2 , kt_c3 , kt_c4 , kt_c8 , kt_c9 , kt_cm1 , kt_c81 , kt_c40 , kt_c7 , kt_c5 , kt_c6] at *; omega)⟩ | exact Or.inr ⟨rfl, by (simp only [kt_lt, kt_le, kt_eq, kt_c0 , kt_c1 , kt_c2 , kt_c3 , kt_c4 , kt_c8 , kt_c9 , kt_cm1 , kt_c81 , kt_c40 , kt_c7 , kt_c5 , kt_c6] at *; omega)⟩) rfl
      · refine lv_iload hx hb dX1_change_24 (lv_at hl 4 rfl) ?_
        refine lv_bipush (v := 8) hx hb dX1_change_26 (by decide) ?_
        refine lv_icmp_gt (tgt := 46) hx hb dX1_change_28 (by decide) (fun c_28 => ?_) (fun c_28 => ?_)
        · refine lv_iconst (v := 0) hx hb dX1_change_46 (by decide) ?_
          refine lv_istore (lv' := [(6, .int 0), (0, .ref la), (1, .int p1), (2, .int p2), (3, .int p3), (4, .int p4), (5, .int p5)]) hx hb dX1_change_47 hl (by decide) rfl (fun ls hl => ?_)
          refine lv_iload hx hb dX1_change_49 (lv_at hl 0 rfl) ?_
          refine lv_if_ne (tgt := 56) hx hb dX1_change_51 (by decide) (fun c_51 => absurd c_51 (by decide)) (fun c_51 => ?_)
          refine lv_iconst (v := 0) hx hb dX1_change_54 (by decide) ?_
          exact kt_rz (o1, o2, o3, o4, o5) hx hb hr hlk hS dX1_change_55 hP hD (by first | exact Or.inl ⟨rfl, by (simp only [kt_lt, kt_le, kt_eq, kt_c0 , kt_c1 , kt_c2 , kt_c3 , kt_c4 , kt_c8 , kt_c9 , kt_cm1 , kt_c81 , kt_c40 , kt_c7 , kt_c5 , kt_c6] at *; omega)⟩ | exact Or.inr ⟨rfl, by (simp only [kt_lt, kt_le, kt_eq, kt_c0 , kt_c1 , kt_c2 , kt_c3 , kt_c4 , kt_c8 , kt_c9 , kt_cm1 , kt_c81 , kt_c40 , kt_c7 , kt_c5 , kt_c6] at *; omega)⟩) rfl
        · refine lv_iload hx hb dX1_change_31 (lv_at hl 5 rfl) ?_
          refine kt_join (σ := Unit) 42 7 (fun u => [(la, .inr (1, [.int o1, .int o2, .int o3, .int o4, .int o5]))]) (fun u => [(0, .ref la), (1, .int p1), (2, .int p2), (3, .int p3), (4, .int p4), (5, .int p5)]) (fun u => []) (fun u => p5 = 0 ∨ p5 = 1) (D := D) (A := A) (H0 := s.heap) (fun u hI H locs hP hD hS ls hl => ?_) (fun j_42 => ?_)
          · have hP : va_P D vwCl [(la, .inr (1, [.int o1, .int o2, .int o3, .int o4, .int o5]))] H := hP
            have hD : va_D A [(la, .inr (1, [.int o1, .int o2, .int o3, .int o4, .int o5]))] := hD
            have hl : lv_has ls 7 [(0, .ref la), (1, .int p1), (2, .int p2), (3, .int p3), (4, .int p4), (5, .int p5)] := hl
            have hI : p5 = 0 ∨ p5 = 1 := hI
            have hI42 := hI
            refine lv_iconst (v := 1) hx hb dX1_change_42 (by decide) ?_
            refine lv_goto (tgt := 47) hx hb dX1_change_43 (by decide) ?_
            refine lv_istore (lv' := [(6, .int 1), (0, .ref la), (1, .int p1), (2, .int p2), (3, .int p3), (4, .int p4), (5, .int p5)]) hx hb dX1_change_47 hl (by decide) rfl (fun ls hl => ?_)
            refine lv_iload hx hb dX1_change_49 (lv_at hl 0 rfl) ?_
            refine lv_if_ne (tgt := 56) hx hb dX1_change_51 (by decide) (fun c_51 => ?_) (fun c_51 => absurd c_51 (by decide))
            refine lv_aload_n hx hb dX1_change_56 rfl (lv_at hl 1 rfl) ?_
            refine lv_iload_n hx hb dX1_change_57 rfl (lv_at hl 2 rfl) ?_
            refine va_put (D := D) (ci := 1) (v := .int p1) (ty := .int) (C := RX1) (T := TX1) (N := 5) hx hb hts iw_X1_change_X1 tyX1 tyX1_ok nmX1 hown hK hP hD hS 0 rfl rfl 0 (by decide) (hts (.fieldLink RX1 7 "KingTable$Laws" "goal" "I") (by decide +kernel)) (fun _ h9 => h9) rfl (by decide +kernel) rfl rfl (Nat.le_of_ble_eq_true rfl) dX1_change_58 (fun H locs hP hD hS => ?_)
            have hP : va_P D vwCl [(la, .inr (1, [.int p1, .int o2, .int o3, .int o4, .int o5]))] H := hP
            have hD : va_D A [(la, .inr (1, [.int p1, .int o2, .int o3, .int o4, .int o5]))] := hD
            refine lv_aload_n hx hb dX1_change_61 rfl (lv_at hl 1 rfl) ?_
            refine lv_iload_n hx hb dX1_change_62 rfl (lv_at hl 3 rfl) ?_
            refine va_put (D := D) (ci := 1) (v := .int p2) (ty := .int) (C := RX1) (T := TX1) (N := 5) hx hb hts iw_X1_change_X1 tyX1 tyX1_ok nmX1 hown hK hP hD hS 0 rfl rfl 1 (by decide) (hts (.fieldLink RX1 13 "KingTable$Laws" "hard" "I") (by decide +kernel)) (fun _ h9 => h9) rfl (by decide +kernel) rfl rfl (Nat.le_of_ble_eq_true rfl) dX1_change_63 (fun H locs hP hD hS => ?_)
            have hP : va_P D vwCl [(la, .inr (1, [.int p1, .int p2, .int o3, .int o4, .int o5]))] H := hP
            have hD : va_D A [(la, .inr (1, [.int p1, .int p2, .int o3, .int o4, .int o5]))] := hD
            refine lv_aload_n hx hb dX1_change_66 rfl (lv_at hl 1 rfl) ?_
            refine lv_iload_n hx hb dX1_change_67 rfl (lv_at hl 4 rfl) ?_
            refine va_put (D := D) (ci := 1) (v := .int p3) (ty := .boolean) (C := RX1) (T := TX1) (N := 5) hx hb hts iw_X1_change_X1 tyX1 tyX1_ok nmX1 hown hK hP hD hS 0 rfl rfl 2 (by decide) (hts (.fieldLink RX1 16 "KingTable$Laws" "kingTakes" "Z") (by decide +kernel)) (fun _ h9 => h9) rfl (by decide +kernel) (by exact hz) (by exact hf) (Nat.le_of_ble_eq_true rfl) dX1_change_68 (fun H locs hP hD hS => ?_)
            have hP : va_P D vwCl [(la, .inr (1, [.int p1, .int p2, .int p3, .int o4, .int o5]))] H := hP
            have hD : va_D A [(la, .inr (1, [.int p1, .int p2, .int p3, .int o4, .int o5]))] := hD
            refine lv_aload_n hx hb dX1_change_71 rfl (lv_at hl 1 rfl) ?_
            refine lv_iload hx hb dX1_change_72 (lv_at hl 5 rfl) ?_
            refine va_put (D := D) (ci := 1) (v := .int p4) (ty := .int) (C := RX1) (T := TX1) (N := 5) hx hb hts iw_X1_change_X1 tyX1 tyX1_ok nmX1 hown hK hP hD hS 0 rfl rfl 3 (by decide) (hts (.fieldLink RX1 20 "KingTable$Laws" "reach" "I") (by decide +kernel)) (fun _ h9 => h9) rfl (by decide +kernel) rfl rfl (Nat.le_of_ble_eq_true rfl) dX1_change_74 (fun H locs hP hD hS => ?_)
            have hP : va_P D vwCl [(la, .inr (1, [.int p1, .int p2, .int p3, .int p4, .int o5]))] H := hP
            have hD : va_D A [(la, .inr (1, [.int p1, .int p2, .int p3, .int p4, .int o5]))] := hD
            refine lv_aload_n hx hb dX1_change_77 rfl (lv_at hl 1 rfl) ?_
            refine lv_iload hx hb dX1_change_78 (lv_at hl 6 rfl) ?_
            refine va_put (D := D) (ci := 1) (v := .int p5) (ty := .int) (C := RX1) (T := TX1) (N := 5) hx hb hts iw_X1_change_X1 tyX1 tyX1_ok nmX1 hown hK hP hD hS 0 rfl rfl 4 (by decide) (hts (.fieldLink RX1 23 "KingTable$Laws" "comeback" "I") (by decide +kernel)) (fun _ h9 => h9) rfl (by decide +kernel) rfl rfl (Nat.le_of_ble_eq_true rfl) dX1_change_80 (fun H locs hP hD hS => ?_)
            have hP : va_P D vwCl [(la, .inr (1, [.int p1, .int p2, .int p3, .int p4, .int p5]))] H := hP
            have hD : va_D A [(la, .inr (1, [.int p1, .int p2, .int p3, .int p4, .int p5]))] := hD
            refine lv_iconst (v := 1) hx hb dX1_change_83 (by decide) ?_
            exact kt_rz (p1, p2, p3, p4, p5) hx hb hr hlk hS dX1_change_84 hP hD (by first | exact Or.inl ⟨rfl, by (simp only [kt_lt, kt_le, kt_eq, kt_c0 , kt_c1 , kt_c2 , kt_c3 , kt_c4 , kt_c8 , kt_c9 , kt_cm1 , kt_c81 , kt_c40 , kt_c7 , kt_c5 , kt_c6] at *; omega)⟩ | exact Or.inr ⟨rfl, by (simp only [kt_lt, kt_le, kt_eq, kt_c0 , kt_c1 , kt_c2 , kt_c3 , kt_c4 , kt_c8 , kt_c9 , kt_cm1 , kt_c81 , kt_c40 , kt_c7 , kt_c5 , kt_c6] at *; omega)⟩) rfl
          refine lv_if_eq (tgt := 42) hx hb dX1_change_33 (by decide) (fun c_33 => ?_) (fun c_33 => ?_)
          · exact j_42 () (by show p5 = 0 ∨ p5 = 1; first | exact Or.inl c_33 | exact Or.inr c_39) H _ hP hD hS ls (lv_sub hl [0, 1, 2, 3, 4, 5] rfl)
          · refine lv_iload hx hb dX1_change_36 (lv_at hl 5 rfl) ?_
            refine lv_iconst (v := 1) hx hb dX1_change_38 (by decide) ?_
            refine lv_icmp_ne (tgt := 46) hx hb dX1_change_39 (by decide) (fun c_39 => ?_) (fun c_39 => ?_)
            · refine lv_iconst (v := 0) hx hb dX1_change_46 (by decide) ?_
              refine lv_istore (lv' := [(6, .int 0), (0, .ref la), (1, .int p1), (2, .int p2), (3, .int p3), (4, .int p4), (5, .int p5)]) hx hb dX1_change_47 hl (by decide) rfl (fun ls hl => ?_)
              refine lv_iload hx hb dX1_change_49 (lv_at hl 0 rfl) ?_
              refine lv_if_ne (tgt := 56) hx hb dX1_change_51 (by decide) (fun c_51 => absurd c_51 (by decide)) (fun c_51 => ?_)
              refine lv_iconst (v := 0) hx hb dX1_change_54 (by decide) ?_
              exact kt_rz (o1, o2, o3, o4, o5) hx hb hr hlk hS dX1_change_55 hP hD (by first | exact Or.inl ⟨rfl, by (simp only [kt_lt, kt_le, kt_eq, kt_c0 , kt_c1 , kt_c2 , kt_c3 , kt_c4 , kt_c8 , kt_c9 , kt_cm1 , kt_c81 , kt_c40 , kt_c7 , kt_c5 , kt_c6] at *; omega)⟩ | exact Or.inr ⟨rfl, by (simp only [kt_lt, kt_le, kt_eq, kt_c0 , kt_c1 , kt_c2 , kt_c3 , kt_c4 , kt_c8 , kt_c9 , kt_cm1 , kt_c81 , kt_c40 , kt_c7 , kt_c5 , kt_c6] at *; omega)⟩) rfl
            · exact j_42 () (by show p5 = 0 ∨ p5 = 1; first | exact Or.inl c_33 | exact Or.inr c_39) H _ hP hD hS ls (lv_sub hl [0, 1, 2, 3, 4, 5] rfl)
    refine lv_icmp_eq (tgt := 19) hx hb dX1_change_11 (by decide) (fun c_11 => ?_) (fun c_11 => ?_)
    · exact j_19 () (by show p2 = 2 ∨ p2 = 4; first | exact Or.inl c_11 | exact Or.inr c_16) H _ hP hD hS ls (lv_sub hl [0, 1, 2, 3, 4, 5] rfl)
    · refine lv_iload_n hx hb dX1_change_14 rfl (lv_at hl 2 rfl) ?_
      refine lv_iconst (v := 4) hx hb dX1_change_15 (by decide) ?_
      refine lv_icmp_ne (tgt := 46) hx hb dX1_change_16 (by decide) (fun c_16 => ?_) (fun c_16 => ?_)
      · refine lv_iconst (v := 0) hx hb dX1_change_46 (by decide) ?_
        refine lv_istore (lv' := [(6, .int 0), (0, .ref la), (1, .int p1), (2, .int p2), (3, .int p3), (4, .int p4), (5, .int p5)]) hx hb dX1_change_47 hl (by decide) rfl (fun ls hl => ?_)
        refine lv_iload hx hb dX1_change_49 (lv_at hl 0 rfl) ?_
        refine lv_if_ne (tgt := 56) hx hb dX1_change_51 (by decide) (fun c_51 => absurd c_51 (by decide)) (fun c_51 => ?_)
        refine lv_iconst (v := 0) hx hb dX1_change_54 (by decide) ?_
        exact kt_rz (o1, o2, o3, o4, o5) hx hb hr hlk hS dX1_change_55 hP hD (by first | exact Or.inl ⟨rfl, by (simp only [kt_lt, kt_le, kt_eq, kt_c0 , kt_c1 , kt_c2 , kt_c3 , kt_c4 , kt_c8 , kt_c9 , kt_cm1 , kt_c81 , kt_c40 , kt_c7 , kt_c5 , kt_c6] at *; omega)⟩ | exact Or.inr ⟨rfl, by (simp only [kt_lt, kt_le, kt_eq, kt_c0 , kt_c1 , kt_c2 , kt_c3 , kt_c4 , kt_c8 , kt_c9 , kt_cm1 , kt_c81 , kt_c40 , kt_c7 , kt_c5 , kt_c6] at *; omega)⟩) rfl
      · exact j_19 () (by show p2 = 2 ∨ p2 = 4; first | exact Or.inl c_11 | exact Or.inr c_16) H _ hP hD hS ls (lv_sub hl [0, 1, 2, 3, 4, 5] rfl)
  refine lv_if_eq (tgt := 9) hx hb dX1_change_1 (by decide) (fun c_1 => ?_) (fun c_1 => ?_)
  · exact j_9 () (by show p1 = 0 ∨ p1 = 1; first | exact Or.inl c_1 | exact Or.inr c_6) H _ hP hD hS ls (lv_sub hl [0, 1, 2, 3, 4, 5] rfl)
  · refine lv_iload_n hx hb dX1_change_4 rfl (lv_at hl 1 rfl) ?_
    refine lv_iconst (v := 1) hx hb dX1_change_5 (by decide) ?_
    refine lv_icmp_ne (tgt := 46) hx hb dX1_change_6 (by decide) (fun c_6 => ?_) (fun c_6 => ?_)
    · refine lv_iconst (v := 0) hx hb dX1_change_46 (by decide) ?_
      refine lv_istore (lv' := [(6, .int 0), (0, .ref la), (1, .int p1), (2, .int p2), (3, .int p3), (4, .int p4), (5, .int p5)]) hx hb dX1_change_47 hl (by decide) rfl (fun ls hl => ?_)
      refine lv_iload hx hb dX1_change_49 (lv_at hl 0 rfl) ?_
      refine lv_if_ne (tgt := 56) hx hb dX1_change_51 (by decide) (fun c_51 => absurd c_51 (by decide)) (fun c_51 => ?_)
      refine lv_iconst (v := 0) hx hb dX1_change_54 (by decide) ?_
      exact kt_rz (o1, o2, o3, o4, o5) hx hb hr hlk hS dX1_change_55 hP hD (by first | exact Or.inl ⟨rfl, by (simp only [kt_lt, kt_le, kt_eq, kt_c0 , kt_c1 , kt_c2 , kt_c3 , kt_c4 , kt_c8 , kt_c9 , kt_cm1 , kt_c81 , kt_c40 , kt_c7 , kt_c5 , kt_c6] at *; omega)⟩ | exact Or.inr ⟨rfl, by (simp only [kt_lt, kt_le, kt_eq, kt_c0 , kt_c1 , kt_c2 , kt_c3 , kt_c4 , kt_c8 , kt_c9 , kt_cm1 , kt_c81 , kt_c40 , kt_c7 , kt_c5 , kt_c6] at *; omega)⟩) rfl
    · exact j_9 () (by show p1 = 0 ∨ p1 = 1; first | exact Or.inl c_1 | exact Or.inr c_6) H _ hP hD hS ls (lv_sub hl [0, 1, 2, 3, 4, 5] rfl)

theorem iw_X9_renew_X9 : ∀ w ∈ wsX90, w ∈ wsX9_renew := by decide +kernel
set_option maxHeartbeats 4000000 in
set_option maxRecDepth 100000 in
theorem c_X9_renew (l : Launch) (D : va_G) (cI cZ cB : ClassId) (sz : Nat) (to : Nat) (sg : Nat) (ln : Int32) (wd : Int32) (fs : Nat → Int32) (p1 : Int32) (p2 : Int32) : kt_Mi l yX9_renew wsX9_renew { frames := 1, cells := 0, slots := 0, locals := 23 } D (kt_ty cI cZ cB) [.ref to, .int p1, .int p2] sz [(to, .inr (9, [.ref sg, .int ln, .int wd])), (sg, .inl (cI, 81, .inl fs))] (fun (r : Int32) (u : Int32 × Int32 × (Nat → Int32)) => (r = 1 ∧ (2 ≤ p1 ∧ p1 ≤ 9 ∧ 2 ≤ p2 ∧ p2 ≤ 9) ∧ u.1 = p1 ∧ u.2.1 = p2 ∧ u.2.2 = fun _ => 0) ∨ (r = 0 ∧ ¬ (2 ≤ p1 ∧ p1 ≤ 9 ∧ 2 ≤ p2 ∧ p2 ≤ 9) ∧ u.1 = ln ∧ u.2.1 = wd ∧ u.2.2 = fs)) (fun (u : Int32 × Int32 × (Nat → Int32)) => [(to, .inr (9, [.ref sg, .int u.1, .int u.2.1])), (sg, .inl (cI, 81, .inl u.2.2))]) 0 0 := by
  refine kt_Mi.of (cc := cX9_renew) (maxL := 3) (ret := some .boolean) (by decide) rfl (Nat.le_of_ble_eq_true rfl) ?_
  intro p e s m below meth c A ls H hAt hP hD hS hl
  obtain ⟨hx, hb, hr, hml, hown, hts, hN, hK, hlk, hnm, hA⟩ := hAt
  have hl : lv_has ls 3 [(0, .ref to), (1, .int p1), (2, .int p2)] := hl
  have hown : s.vm.findClass RX9 = some m.cls := hown
  refine lv_iload_n hx hb dX9_renew_0 rfl (lv_at hl 1 rfl) ?_
  refine kt_pi (wc := []) [] hP hD hS hA rfl (by decide) (fun hPc hDc => va_runS (As := [.int p1]) (rest := []) ⟨hx, hb, hml, hown, hts⟩ (c_X9_isSpan l D cI cZ cB H.size p1 ) (va_cwS 1 hts gX9_renew_X9_isSpan rfl rfl rfl (by decide +kernel) ⟨Nat.le_of_ble_eq_true rfl, Nat.le_of_ble_eq_true rfl⟩) (kt_preS hN hK hPc hDc) rfl rfl hl.1 rfl (lv_room (Nat.le_of_ble_eq_true rfl)) dX9_renew_1 ⟨Nat.le_of_ble_eq_true rfl, Nat.le_of_ble_eq_true rfl⟩) (fun r_1 _ H locs hw_1 hP hS => ?_)
  refine lv_if_eq (tgt := 14) hx hb dX9_renew_4 (by decide) (fun c_4 => ?_) (fun c_4 => ?_)
  · refine lv_iconst (v := 0) hx hb dX9_renew_14 (by decide) ?_
    exact kt_rz (ln, wd, fs) hx hb hr hlk hS dX9_renew_15 hP hD (by first | exact Or.inr ⟨rfl, fun h => (hw_1.f c_4) ⟨h.1, h.2.1⟩, rfl, rfl, rfl⟩ | exact Or.inr ⟨rfl, fun h => (hw_8.f c_11) ⟨h.2.2.1, h.2.2.2⟩, rfl, rfl, rfl⟩ | exact Or.inl ⟨rfl, ⟨(hw_1.t c_4).1, (hw_1.t c_4).2, (hw_8.t c_11).1, (hw_8.t c_11).2⟩, rfl, rfl, rfl⟩) rfl
  · refine lv_iload_n hx hb dX9_renew_7 rfl (lv_at hl 2 rfl) ?_
    refine kt_pi (wc := []) [] hP hD hS hA rfl (by decide) (fun hPc hDc => va_runS (As := [.int p2]) (rest := []) ⟨hx, hb, hml, hown, hts⟩ (c_X9_isSpan l D cI cZ cB H.size p2 ) (va_cwS 1 hts gX9_renew_X9_isSpan rfl rfl rfl (by decide +kernel) ⟨Nat.le_of_ble_eq_true rfl, Nat.le_of_ble_eq_true rfl⟩) (kt_preS hN hK hPc hDc) rfl rfl hl.1 rfl (lv_room (Nat.le_of_ble_eq_true rfl)) dX9_renew_8 ⟨Nat.le_of_ble_eq_true rfl, Nat.le_of_ble_eq_true rfl⟩) (fun r_8 _ H locs hw_8 hP hS => ?_)
    refine lv_if_ne (tgt := 16) hx hb dX9_renew_11 (by decide) (fun c_11 => ?_) (fun c_11 => ?_)
    · refine lv_aload_n hx hb dX9_renew_16 rfl (lv_at hl 0 rfl) ?_
      refine lv_iload_n hx hb dX9_renew_17 rfl (lv_at hl 1 rfl) ?_
      refine va_put (D := D) (ci := 9) (v := .int p1) (ty := .int) (C := RX9) (T := TX9) (N := 3) hx hb hts iw_X9_renew_X9 tyX9 tyX9_ok nmX9 hown hK hP hD hS 0 rfl rfl 1 (by decide) (hts (.fieldLink RX9 15 "KingTable$Told" "lines" "I") (by decide +kernel)) (fun _ h9 => h9) rfl (by decide +kernel) rfl rfl (Nat.le_of_ble_eq_true rfl) dX9_renew_18 (fun H locs hP hD hS => ?_)
      have hP : va_P D vwCl [(to, .inr (9, [.ref sg, .int p1, .int wd])), (sg, .inl (cI, 81, .inl fs))] H := hP
      have hD : va_D A [(to, .inr (9, [.ref sg, .int p1, .int wd])), (sg, .inl (cI, 81, .inl fs))] := hD
      refine lv_aload_n hx hb dX9_renew_21 rfl (lv_at hl 0 rfl) ?_
      refine lv_iload_n hx hb dX9_renew_22 rfl (lv_at hl 2 rfl) ?_
      refine va_put (D := D) (ci := 9) (v := .int p2) (ty := .int) (C := RX9) (T := TX9) (N := 3) hx hb hts iw_X9_renew_X9 tyX9 tyX9_ok nmX9 hown hK hP hD hS 0 rfl rfl 2 (by decide) (hts (.fieldLink RX9 19 "KingTable$Told" "width" "I") (by decide +kernel)) (fun _ h9 => h9) rfl (by decide +kernel) rfl rfl (Nat.le_of_ble_eq_true rfl) dX9_renew_23 (fun H locs hP hD hS => ?_)
      have hP : va_P D vwCl [(to, .inr (9, [.ref sg, .int p1, .int p2])), (sg, .inl (cI, 81, .inl fs))] H := hP
      have hD : va_D A [(to, .inr (9, [.ref sg, .int p1, .int p2])), (sg, .inl (cI, 81, .inl fs))] := hD
      refine lv_aload_n hx hb dX9_renew_26 rfl (lv_at hl 0 rfl) ?_
      refine va_get (D := D) (ci := 9) (C := RX9) (T := TX9) (N := 3) hx hb hts iw_X9_renew_X9 hown hK hP 0 rfl rfl 0 (by decide) (hts (.fieldLink RX9 9 "KingTable$Told" "signs" "[I") (by decide +kernel)) (fun _ h9 => h9) rfl dX9_renew_27 ?_
      refine lv_iconst (v := 0) hx hb dX9_renew_30 (by decide) ?_
      refine kt_bv (wc := [(sg, .inl (cI, 81, .inl fs))]) (wr := [(to, .inr (9, [.ref sg, .int p1, .int p2]))]) [1] [0] hP hD hS hA rfl rfl (by decide) (by decide) (by decide) (fun hPc hDc => va_runS (As := [.ref sg, .int 0]) (rest := []) ⟨hx, hb, hml, hown, hts⟩ (c_fill l D cI cZ cB H.size sg 81 fs 0 (by decide)) (va_cwS 2 hts gX9_renew_J7_fill_53178 rfl rfl rfl (by decide +kernel) ⟨Nat.le_of_ble_eq_true rfl, Nat.le_of_ble_eq_true rfl⟩) (kt_preS hN hK hPc hDc) rfl rfl hl.1 rfl (lv_room (Nat.le_of_ble_eq_true rfl)) dX9_renew_31 ⟨Nat.le_of_ble_eq_true rfl, Nat.le_of_ble_eq_true rfl⟩) (fun u_ H locs hw_31 hP hD hS => ?_)
      have hP : va_P D vwCl [(to, .inr (9, [.ref sg, .int p1, .int p2])), (sg, .inl (cI, 81, .inl (fun _ => 0)))] H := hP.sub [0, 1] rfl
      have hD : va_D A [(to, .inr (9, [.ref sg, .int p1, .int p2])), (sg, .inl (cI, 81, .inl (fun _ => 0)))] := hD.sub [0, 1] (by decide) rfl
      refine lv_iconst (v := 1) hx hb dX9_renew_34 (by decide) ?_
      exact kt_rz (p1, p2, fun _ => 0) hx hb hr hlk hS dX9_renew_35 hP hD (by first | exact Or.inr ⟨rfl, fun h => (hw_1.f c_4) ⟨h.1, h.2.1⟩, rfl, rfl, rfl⟩ | exact Or.inr ⟨rfl, fun h => (hw_8.f c_11) ⟨h.2.2.1, h.2.2.2⟩, rfl, rfl, rfl⟩ | exact Or.inl ⟨rfl, ⟨(hw_1.t c_4).1, (hw_1.t c_4).2, (hw_8.t c_11).1, (hw_8.t c_11).2⟩, rfl, rfl, rfl⟩) rfl
    · refine lv_iconst (v := 0) hx hb dX9_renew_14 (by decide) ?_
      exact kt_rz (ln, wd, fs) hx hb hr hlk hS dX9_renew_15 hP hD (by first | exact Or.inr ⟨rfl, fun h => (hw_1.f c_4) ⟨h.1, h.2.1⟩, rfl, rfl, rfl⟩ | exact Or.inr ⟨rfl, fun h => (hw_8.f c_11) ⟨h.2.2.1, h.2.2.2⟩, rfl, rfl, rfl⟩ | exact Or.inl ⟨rfl, ⟨(hw_1.t c_4).1, (hw_1.t c_4).2, (hw_8.t c_11).1, (hw_8.t c_11).2⟩, rfl, rfl, rfl⟩) rfl

theorem iw_X3_clear_X3 : ∀ w ∈ wsX30, w ∈ wsX3_clear := by decide +kernel
set_option maxHeartbeats 4000000 in
set_option maxRecDepth 100000 in
theorem c_X3_clear (l : Launch) (D : va_G) (cI cZ cB : ClassId) (sz : Nat) (lo : Nat) (l0 : Nat) (l1 : Nat) (l2 : Nat) (l3 : Nat) (l4 : Nat) (l5 : Nat) (l6 : Nat) (dn : Int32) (kn : Int32) : kt_Mv l yX3_clear wsX3_clear { frames := 0, cells := 0, slots := 0, locals := 0 } D (kt_ty cI cZ cB) [.ref lo] sz [(lo, .inr (3, [.ref l0, .ref l1, .ref l2, .ref l3, .ref l4, .ref l5, .ref l6, .int dn, .int kn]))] (fun (u : Unit) => True) (fun (u : Unit) => [(lo, .inr (3, [.ref l0, .ref l1, .ref l2, .ref l3, .ref l4, .ref l5, .ref l6, .int 0, .int 0]))]) 0 0 := by
  refine kt_Mv.of (cc := cX3_clear) (maxL := 1) (ret := none) (by decide) rfl (Nat.le_of_ble_eq_true rfl) ?_
  intro p e s m below meth c A ls H hAt hP hD hS hl
  obtain ⟨hx, hb, hr, hml, hown, hts, hN, hK, hlk, hnm, hA⟩ := hAt
  have hl : lv_has ls 1 [(0, .ref lo)] := hl
  have hown : s.vm.findClass RX3 = some m.cls := hown
  refine lv_aload_n hx hb dX3_clear_0 rfl (lv_at hl 0 rfl) ?_
  refine lv_iconst (v := 0) hx hb dX3_clear_1 (by decide) ?_
  refine va_put (D := D) (ci := 3) (v := .int 0) (ty := .int) (C := RX3) (T := TX3) (N := 9) hx hb hts iw_X3_clear_X3 tyX3 tyX3_ok nmX3 hown hK hP hD hS 0 rfl rfl 7 (by decide) (hts (.fieldLink RX3 33 "KingTable$Log" "done" "I") (by decide +kernel)) (fun _ h9 => h9) rfl (by decide +kernel) rfl rfl (Nat.le_of_ble_eq_true rfl) dX3_clear_2 (fun H locs hP hD hS => ?_)
  have hP : va_P D vwCl [(lo, .inr (3, [.ref l0, .ref l1, .ref l2, .ref l3, .ref l4, .ref l5, .ref l6, .int 0, .int kn]))] H := hP
  have hD : va_D A [(lo, .inr (3, [.ref l0, .ref l1, .ref l2, .ref l3, .ref l4, .ref l5, .ref l6, .int 0, .int kn]))] := hD
  refine lv_aload_n hx hb dX3_clear_5 rfl (lv_at hl 0 rfl) ?_
  refine lv_iconst (v := 0) hx hb dX3_clear_6 (by decide) ?_
  refine va_put (D := D) (ci := 3) (v := .int 0) (ty := .int) (C := RX3) (T := TX3) (N := 9) hx hb hts iw_X3_clear_X3 tyX3 tyX3_ok nmX3 hown hK hP hD hS 0 rfl rfl 8 (by decide) (hts (.fieldLink RX3 37 "KingTable$Log" "known" "I") (by decide +kernel)) (fun _ h9 => h9) rfl (by decide +kernel) rfl rfl (Nat.le_of_ble_eq_true rfl) dX3_clear_7 (fun H locs hP hD hS => ?_)
  have hP : va_P D vwCl [(lo, .inr (3, [.ref l0, .ref l1, .ref l2, .ref l3, .ref l4, .ref l5, .ref l6, .int 0, .int 0]))] H := hP
  have hD : va_D A [(lo, .inr (3, [.ref l0, .ref l1, .ref l2, .ref l3, .ref l4, .ref l5, .ref l6, .int 0, .int 0]))] := hD
  exact kt_rv () hx hb hr hlk hS dX3_clear_10 hP hD (by first | rfl | trivial | assumption | (simp_all; done) | grind)

theorem iw_X6_dismiss_X6 : ∀ w ∈ wsX60, w ∈ wsX6_dismiss := by decide +kernel
set_option maxHeartbeats 4000000 in
set_option maxRecDepth 100000 in
theorem c_X6_dismiss (l : Launch) (D : va_G) (cI cZ cB : ClassId) (sz : Nat) (ru : Nat) (la : Nat) (gr : Nat) (rk : Nat) (rs : Nat) (rt : Nat) (rv : Nat) (tt : Int32) (kg : Int32) (vc : Int32) : kt_Mv l yX6_dismiss wsX6_dismiss { frames := 0, cells := 0, slots := 0, locals := 0 } D (kt_ty cI cZ cB) [.ref ru] sz [(ru, .inr (6, [.ref la, .ref gr, .ref rk, .ref rs, .ref rt, .int tt, .int kg, .ref rv, .int vc]))] (fun (u : Unit) => True) (fun (u : Unit) => [(ru, .inr (6, [.ref la, .ref gr, .ref rk, .ref rs, .ref rt, .int 0, .int (-1), .ref rv, .int vc]))]) 0 0 := by
  refine kt_Mv.of (cc := cX6_dismiss) (maxL := 1) (ret := none) (by decide) rfl (Nat.le_of_ble_eq_true rfl) ?_
  intro p e s m below meth c A ls H hAt hP hD hS hl
  obtain ⟨hx, hb, hr, hml, hown, hts, hN, hK, hlk, hnm, hA⟩ := hAt
  have hl : lv_has ls 1 [(0, .ref ru)] := hl
  have hown : s.vm.findClass RX6 = some m.cls := hown
  refine lv_aload_n hx hb dX6_dismiss_0 rfl (lv_at hl 0 rfl) ?_
  refine lv_iconst (v := 0) hx hb dX6_dismiss_1 (by decide) ?_
  refine va_put (D := D) (ci := 6) (v := .int 0) (ty := .int) (C := RX6) (T := TX6) (N := 9) hx hb hts iw_X6_dismiss_X6 tyX6 tyX6_ok nmX6 hown hK hP hD hS 0 rfl rfl 5 (by decide) (hts (.fieldLink RX6 40 "KingTable$Rules" "total" "I") (by decide +kernel)) (fun _ h9 => h9) rfl (by decide +kernel) rfl rfl (Nat.le_of_ble_eq_true rfl) dX6_dismiss_2 (fun H locs hP hD hS => ?_)
  have hP : va_P D vwCl [(ru, .inr (6, [.ref la, .ref gr, .ref rk, .ref rs, .ref rt, .int 0, .int kg, .ref rv, .int vc]))] H := hP
  have hD : va_D A [(ru, .inr (6, [.ref la, .ref gr, .ref rk, .ref rs, .ref rt, .int 0, .int kg, .ref rv, .int vc]))] := hD
  refine lv_aload_n hx hb dX6_dismiss_5 rfl (lv_at hl 0 rfl) ?_
  refine lv_iconst (v := (-1)) hx hb dX6_dismiss_6 (by decide) ?_
  refine va_put (D := D) (ci := 6) (v := .int (-1)) (ty := .int) (C := RX6) (T := TX6) (N := 9) hx hb hts iw_X6_dismiss_X6 tyX6 tyX6_ok nmX6 hown hK hP hD hS 0 rfl rfl 6 (by decide) (hts (.fieldLink RX6 29 "KingTable$Rules" "king" "I") (by decide +kernel)) (fun _ h9 => h9) rfl (by decide +kernel) rfl rfl (Nat.le_of_ble_eq_true rfl) dX6_dismiss_7 (fun H locs hP hD hS => ?_)
  have hP : va_P D vwCl [(ru, .inr (6, [.ref la, .ref gr, .ref rk, .ref rs, .ref rt, .int 0, .int (-1), .ref rv, .int vc]))] H := hP
  have hD : va_D A [(ru, .inr (6, [.ref la, .ref gr, .ref rk, .ref rs, .ref rt, .int 0, .int (-1), .ref rv, .int vc]))] := hD
  exact kt_rv () hx hb hr hlk hS dX6_dismiss_10 hP hD (by first | rfl | trivial | assumption | (simp_all; done) | grind)

theorem iw_X4_finish_X4 : ∀ w ∈ wsX40, w ∈ wsX4_finish := by decide +kernel
set_option maxHeartbeats 4000000 in
set_option maxRecDepth 100000 in
theorem c_X4_finish (l : Launch) (D : va_G) (cI cZ cB : ClassId) (sz : Nat) (pl : Nat) (la : Nat) (ru : Nat) (nw : Nat) (lo : Nat) (gr : Nat) (rk : Nat) (rs : Nat) (rt : Nat) (rv : Nat) (sf : Nat) (sh : Nat) (l0 : Nat) (l1 : Nat) (l2 : Nat) (l3 : Nat) (l4 : Nat) (l5 : Nat) (l6 : Nat) (st : Int32) (tt : Int32) (kg : Int32) (vc : Int32) (tu : Int32) (dn : Int32) (kn : Int32) (ff : Nat → Int32) (fh : Nat → Int32) : kt_Mv l yX4_finish wsX4_finish { frames := 2, cells := 0, slots := 0, locals := 43 } D (kt_ty cI cZ cB) [.ref pl] sz [(pl, .inr (4, [.ref la, .ref ru, .ref nw, .ref lo, .int st])), (ru, .inr (6, [.ref la, .ref gr, .ref rk, .ref rs, .ref rt, .int tt, .int kg, .ref rv, .int vc])), (nw, .inr (8, [.ref sf, .ref sh, .int tu])), (sf, .inl (cI, 40, .inl ff)), (sh, .inl (cI, 81, .inl fh)), (lo, .inr (3, [.ref l0, .ref l1, .ref l2, .ref l3, .ref l4, .ref l5, .ref l6, .int dn, .int kn]))] (fun (u : Unit) => True) (fun (u : Unit) => [(pl, .inr (4, [.ref la, .ref ru, .ref nw, .ref lo, .int 0])), (ru, .inr (6, [.ref la, .ref gr, .ref rk, .ref rs, .ref rt, .int 0, .int (-1), .ref rv, .int vc])), (nw, .inr (8, [.ref sf, .ref sh, .int 0])), (sf, .inl (cI, 40, .inl (fun _ => (-1)))), (sh, .inl (cI, 81, .inl (fun _ => (-1)))), (lo, .inr (3, [.ref l0, .ref l1, .ref l2, .ref l3, .ref l4, .ref l5, .ref l6, .int 0, .int 0]))]) 0 0 := by
  refine kt_Mv.of (cc := cX4_finish) (maxL := 1) (ret := none) (by decide) rfl (Nat.le_of_ble_eq_true rfl) ?_
  intro p e s m below meth c A ls H hAt hP hD hS hl
  obtain ⟨hx, hb, hr, hml, hown, hts, hN, hK, hlk, hnm, hA⟩ := hAt
  have hl : lv_has ls 1 [(0, .ref pl)] := hl
  have hown : s.vm.findClass RX4 = some m.cls := hown
  refine lv_aload_n hx hb dX4_finish_0 rfl (lv_at hl 0 rfl) ?_
  refine lv_iconst (v := 0) hx hb dX4_finish_1 (by decide) ?_
  refine va_put (D := D) (ci := 4) (v := .int 0) (ty := .int) (C := RX4) (T := TX4) (N := 5) hx hb hts iw_X4_finish_X4 tyX4 tyX4_ok nmX4 hown hK hP hD hS 0 rfl rfl 4 (by decide) (hts (.fieldLink RX4 25 "KingTable$Play" "state" "I") (by decide +kernel)) (fun _ h9 => h9) rfl (by decide +kernel) rfl rfl (Nat.le_of_ble_eq_true rfl) dX4_finish_2 (fun H locs hP hD hS => ?_)
  have hP : va_P D vwCl [(pl, .inr (4, [.ref la, .ref ru, .ref nw, .ref lo, .int 0])), (ru, .inr (6, [.ref la, .ref gr, .ref rk, .ref rs, .ref rt, .int tt, .int kg, .ref rv, .int vc])), (nw, .inr (8, [.ref sf, .ref sh, .int tu])), (sf, .inl (cI, 40, .inl ff)), (sh, .inl (cI, 81, .inl fh)), (lo, .inr (3, [.ref l0, .ref l1, .ref l2, .ref l3, .ref l4, .ref l5, .ref l6, .int dn, .int kn]))] H := hP
  have hD : va_D A [(pl, .inr (4, [.ref la, .ref ru, .ref nw, .ref lo, .int 0])), (ru, .inr (6, [.ref la, .ref gr, .ref rk, .ref rs, .ref rt, .int tt, .int kg, .ref rv, .int vc])), (nw, .inr (8, [.ref sf, .ref sh, .int tu])), (sf, .inl (cI, 40, .inl ff)), (sh, .inl (cI, 81, .inl fh)), (lo, .inr (3, [.ref l0, .ref l1, .ref l2, .ref l3, .ref l4, .ref l5, .ref l6, .int dn, .int kn]))] := hD
  refine lv_aload_n hx hb dX4_finish_5 rfl (lv_at hl 0 rfl) ?_
  refine va_get (D := D) (ci := 4) (C := RX4) (T := TX4) (N := 5) hx hb hts iw_X4_finish_X4 hown hK hP 0 rfl rfl 1 (by decide) (hts (.fieldLink RX4 33 "KingTable$Play" "rules" "LKingTable$Rules;") (by decide +kernel)) (fun _ h9 => h9) rfl dX4_finish_6 ?_
  refine kt_bv (wc := [(ru, .inr (6, [.ref la, .ref gr, .ref rk, .ref rs, .ref rt, .int tt, .int kg, .ref rv, .int vc]))]) (wr := [(pl, .inr (4, [.ref la, .ref ru, .ref nw, .ref lo, .int 0])), (nw, .inr (8, [.ref sf, .ref sh, .int tu])), (sf, .inl (cI, 40, .inl ff)), (sh, .inl (cI, 81, .inl fh)), (lo, .inr (3, [.ref l0, .ref l1, .ref l2, .ref l3, .ref l4, .ref l5, .ref l6, .int dn, .int kn]))]) [1] [0, 2, 3, 4, 5] hP hD hS hA rfl rfl (by decide) (by decide) (by decide) (fun hPc hDc => va_runV (As := []) (rest := []) ⟨hx, hb, hml, hown, hts⟩ (c_X6_dismiss l D cI cZ cB H.size ru la gr rk rs rt rv tt kg vc ) (cwV 0 hts gX4_finish_X6_dismiss rfl rfl rfl (by decide +kernel) ⟨Nat.le_of_ble_eq_true rfl, Nat.le_of_ble_eq_true rfl⟩) (kt_preV hN hK hPc hDc 0 (ci := 6) (q := (RX6, TX6, 9)) rfl rfl) rfl rfl hl.1 rfl (lv_room (Nat.le_of_ble_eq_true rfl)) dX4_finish_9 ⟨Nat.le_of_ble_eq_true rfl, Nat.le_of_ble_eq_true rfl⟩) (fun u_ H locs hw_9 hP hD hS => ?_)
  have hP : va_P D vwCl [(pl, .inr (4, [.ref la, .ref ru, .ref nw, .ref lo, .int 0])), (ru, .inr (6, [.ref la, .ref gr, .ref rk, .ref rs, .ref rt, .int 0, .int (-1), .ref rv, .int vc])), (nw, .inr (8, [.ref sf, .ref sh, .int tu])), (sf, .inl (cI, 40, .inl ff)), (sh, .inl (cI, 81, .inl fh)), (lo, .inr (3, [.ref l0, .ref l1, .ref l2, .ref l3, .ref l4, .ref l5, .ref l6, .int dn, .int kn]))] H := hP.sub [0, 5, 1, 2, 3, 4] rfl
  have hD : va_D A [(pl, .inr (4, [.ref la, .ref ru, .ref nw, .ref lo, .int 0])), (ru, .inr (6, [.ref la, .ref gr, .ref rk, .ref rs, .ref rt, .int 0, .int (-1), .ref rv, .int vc])), (nw, .inr (8, [.ref sf, .ref sh, .int tu])), (sf, .inl (cI, 40, .inl ff)), (sh, .inl (cI, 81, .inl fh)), (lo, .inr (3, [.ref l0, .ref l1, .ref l2, .ref l3, .ref l4, .ref l5, .ref l6, .int dn, .int kn]))] := hD.sub [0, 5, 1, 2, 3, 4] (by decide) rfl
  refine lv_aload_n hx hb dX4_finish_12 rfl (lv_at hl 0 rfl) ?_
  refine va_get (D := D) (ci := 4) (C := RX4) (T := TX4) (N := 5) hx hb hts iw_X4_finish_X4 hown hK hP 0 rfl rfl 2 (by decide) (hts (.fieldLink RX4 12 "KingTable$Play" "now" "LKingTable$Stand;") (by decide +kernel)) (fun _ h9 => h9) rfl dX4_finish_13 ?_
  refine kt_bv (wc := [(nw, .inr (8, [.ref sf, .ref sh, .int tu])), (sf, .inl (cI, 40, .inl ff)), (sh, .inl (cI, 81, .inl fh))]) (wr := [(pl, .inr (4, [.ref la, .ref ru, .ref nw, .ref lo, .int 0])), (ru, .inr (6, [.ref la, .ref gr, .ref rk, .ref rs, .ref rt, .int 0, .int (-1), .ref rv, .int vc])), (lo, .inr (3, [.ref l0, .ref l1, .ref l2, .ref l3, .ref l4, .ref l5, .ref l6, .int dn, .int kn]))]) [2, 3, 4] [0, 1, 5] hP hD hS hA rfl rfl (by decide) (by decide) (by decide) (fun hPc hDc => va_runV (As := []) (rest := []) ⟨hx, hb, hml, hown, hts⟩ (c_X8_clear l D cI cZ cB H.size nw sf sh ff fh tu ) (cwV 0 hts gX4_finish_X8_clear rfl rfl rfl (by decide +kernel) ⟨Nat.le_of_ble_eq_true rfl, Nat.le_of_ble_eq_true rfl⟩) (kt_preV hN hK hPc hDc 0 (ci := 8) (q := (RX8, TX8, 3)) rfl rfl) rfl rfl hl.1 rfl (lv_room (Nat.le_of_ble_eq_true rfl)) dX4_finish_16 ⟨Nat.le_of_ble_eq_true rfl, Nat.le_of_ble_eq_true rfl⟩) (fun u_ H locs hw_16 hP hD hS => ?_)
  have hP : va_P D vwCl [(pl, .inr (4, [.ref la, .ref ru, .ref nw, .ref lo, .int 0])), (ru, .inr (6, [.ref la, .ref gr, .ref rk, .ref rs, .ref rt, .int 0, .int (-1), .ref rv, .int vc])), (nw, .inr (8, [.ref sf, .ref sh, .int 0])), (sf, .inl (cI, 40, .inl (fun _ => (-1)))), (sh, .inl (cI, 81, .inl (fun _ => (-1)))), (lo, .inr (3, [.ref l0, .ref l1, .ref l2, .ref l3, .ref l4, .ref l5, .ref l6, .int dn, .int kn]))] H := hP.sub [0, 1, 3, 4, 5, 2] rfl
  have hD : va_D A [(pl, .inr (4, [.ref la, .ref ru, .ref nw, .ref lo, .int 0])), (ru, .inr (6, [.ref la, .ref gr, .ref rk, .ref rs, .ref rt, .int 0, .int (-1), .ref rv, .int vc])), (nw, .inr (8, [.ref sf, .ref sh, .int 0])), (sf, .inl (cI, 40, .inl (fun _ => (-1)))), (sh, .inl (cI, 81, .inl (fun _ => (-1)))), (lo, .inr (3, [.ref l0, .ref l1, .ref l2, .ref l3, .ref l4, .ref l5, .ref l6, .int dn, .int kn]))] := hD.sub [0, 1, 3, 4, 5, 2] (by decide) rfl
  refine lv_aload_n hx hb dX4_finish_19 rfl (lv_at hl 0 rfl) ?_
  refine va_get (D := D) (ci := 4) (C := RX4) (T := TX4) (N := 5) hx hb hts iw_X4_finish_X4 hown hK hP 0 rfl rfl 3 (by decide) (hts (.fieldLink RX4 21 "KingTable$Play" "log" "LKingTable$Log;") (by decide +kernel)) (fun _ h9 => h9) rfl dX4_finish_20 ?_
  refine kt_bv (wc := [(lo, .inr (3, [.ref l0, .ref l1, .ref l2, .ref l3, .ref l4, .ref l5, .ref l6, .int dn, .int kn]))]) (wr := [(pl, .inr (4, [.ref la, .ref ru, .ref nw, .ref lo, .int 0])), (ru, .inr (6, [.ref la, .ref gr, .ref rk, .ref rs, .ref rt, .int 0, .int (-1), .ref rv, .int vc])), (nw, .inr (8, [.ref sf, .ref sh, .int 0])), (sf, .inl (cI, 40, .inl (fun _ => (-1)))), (sh, .inl (cI, 81, .inl (fun _ => (-1))))]) [5] [0, 1, 2, 3, 4] hP hD hS hA rfl rfl (by decide) (by decide) (by decide) (fun hPc hDc => va_runV (As := []) (rest := []) ⟨hx, hb, hml, hown, hts⟩ (c_X3_clear l D cI cZ cB H.size lo l0 l1 l2 l3 l4 l5 l6 dn kn ) (cwV 0 hts gX4_finish_X3_clear rfl rfl rfl (by decide +kernel) ⟨Nat.le_of_ble_eq_true rfl, Nat.le_of_ble_eq_true rfl⟩) (kt_preV hN hK hPc hDc 0 (ci := 3) (q := (RX3, TX3, 9)) rfl rfl) rfl rfl hl.1 rfl (lv_room (Nat.le_of_ble_eq_true rfl)) dX4_finish_23 ⟨Nat.le_of_ble_eq_true rfl, Nat.le_of_ble_eq_true rfl⟩) (fun u_ H locs hw_23 hP hD hS => ?_)
  have hP : va_P D vwCl [(pl, .inr (4, [.ref la, .ref ru, .ref nw, .ref lo, .int 0])), (ru, .inr (6, [.ref la, .ref gr, .ref rk, .ref rs, .ref rt, .int 0, .int (-1), .ref rv, .int vc])), (nw, .inr (8, [.ref sf, .ref sh, .int 0])), (sf, .inl (cI, 40, .inl (fun _ => (-1)))), (sh, .inl (cI, 81, .inl (fun _ => (-1)))), (lo, .inr (3, [.ref l0, .ref l1, .ref l2, .ref l3, .ref l4, .ref l5, .ref l6, .int 0, .int 0]))] H := hP.sub [0, 1, 2, 3, 4, 5] rfl
  have hD : va_D A [(pl, .inr (4, [.ref la, .ref ru, .ref nw, .ref lo, .int 0])), (ru, .inr (6, [.ref la, .ref gr, .ref rk, .ref rs, .ref rt, .int 0, .int (-1), .ref rv, .int vc])), (nw, .inr (8, [.ref sf, .ref sh, .int 0])), (sf, .inl (cI, 40, .inl (fun _ => (-1)))), (sh, .inl (cI, 81, .inl (fun _ => (-1)))), (lo, .inr (3, [.ref l0, .ref l1, .ref l2, .ref l3, .ref l4, .ref l5, .ref l6, .int 0, .int 0]))] := hD.sub [0, 1, 2, 3, 4, 5] (by decide) rfl
  exact kt_rv () hx hb hr hlk hS dX4_finish_26 hP hD (by first | rfl | trivial | assumption | (simp_all; done) | grind)

theorem iw_X7_forget_X7 : ∀ w ∈ wsX70, w ∈ wsX7_forget := by decide +kernel
set_option maxHeartbeats 4000000 in
set_option maxRecDepth 100000 in
theorem c_X7_forget (l : Launch) (D : va_G) (cI cZ cB : ClassId) (sz : Nat) (so : Nat) (ru : Nat) (tr : Nat) (lk : Nat) (vp : Nat) (vd : Nat) (vt : Nat) (vg : Nat) (vw : Nat) (ve : Nat) (vo : Nat) (vq : Nat) (qd : Int32) (pp : Int32) (ct : Int32) (sv : Int32) : kt_Mv l yX7_forget wsX7_forget { frames := 0, cells := 0, slots := 0, locals := 0 } D (kt_ty cI cZ cB) [.ref so] sz [(so, .inr (7, [.ref ru, .ref tr, .ref lk, .ref vp, .ref vd, .ref vt, .ref vg, .ref vw, .ref ve, .ref vo, .ref vq, .int qd, .int pp, .int ct, .int sv]))] (fun (u : Unit) => True) (fun (u : Unit) => [(so, .inr (7, [.ref ru, .ref tr, .ref lk, .ref vp, .ref vd, .ref vt, .ref vg, .ref vw, .ref ve, .ref vo, .ref vq, .int qd, .int pp, .int ct, .int 0]))]) 0 0 := by
  refine kt_Mv.of (cc := cX7_forget) (maxL := 1) (ret := none) (by decide) rfl (Nat.le_of_ble_eq_true rfl) ?_
  intro p e s m below meth c A ls H hAt hP hD hS hl
  obtain ⟨hx, hb, hr, hml, hown, hts, hN, hK, hlk, hnm, hA⟩ := hAt
  have hl : lv_has ls 1 [(0, .ref so)] := hl
  have hown : s.vm.findClass RX7 = some m.cls := hown
  refine lv_aload_n hx hb dX7_forget_0 rfl (lv_at hl 0 rfl) ?_
  refine lv_iconst (v := 0) hx hb dX7_forget_1 (by decide) ?_
  refine va_put (D := D) (ci := 7) (v := .int 0) (ty := .boolean) (C := RX7) (T := TX7) (N := 15) hx hb hts iw_X7_forget_X7 tyX7 tyX7_ok nmX7 hown hK hP hD hS 0 rfl rfl 14 (by decide) (hts (.fieldLink RX7 54 "KingTable$Solver" "solved" "Z") (by decide +kernel)) (fun _ h9 => h9) rfl (by decide +kernel) rfl rfl (Nat.le_of_ble_eq_true rfl) dX7_forget_2 (fun H locs hP hD hS => ?_)
  have hP : va_P D vwCl [(so, .inr (7, [.ref ru, .ref tr, .ref lk, .ref vp, .ref vd, .ref vt, .ref vg, .ref vw, .ref ve, .ref vo, .ref vq, .int qd, .int pp, .int ct, .int 0]))] H := hP
  have hD : va_D A [(so, .inr (7, [.ref ru, .ref tr, .ref lk, .ref vp, .ref vd, .ref vt, .ref vg, .ref vw, .ref ve, .ref vo, .ref vq, .int qd, .int pp, .int ct, .int 0]))] := hD
  exact kt_rv () hx hb hr hlk hS dX7_forget_5 hP hD (by first | rfl | trivial | assumption | (simp_all; done) | grind)

theorem iw_X10_endPlay_X10 : ∀ w ∈ wsX100, w ∈ wsX10_endPlay := by decide +kernel
set_option maxHeartbeats 4000000 in
set_option maxRecDepth 100000 in
theorem c_X10_endPlay (l : Launch) (D : va_G) (cI cZ cB : ClassId) (sz : Nat) (kt : Nat) (to : Nat) (ho : Nat) (so : Nat) (pl : Nat) (la : Nat) (ru : Nat) (nw : Nat) (lo : Nat) (gr : Nat) (rk : Nat) (rs : Nat) (rt : Nat) (rv : Nat) (sf : Nat) (sh : Nat) (l0 : Nat) (l1 : Nat) (l2 : Nat) (l3 : Nat) (l4 : Nat) (l5 : Nat) (l6 : Nat) (st : Int32) (tt : Int32) (kg : Int32) (vc : Int32) (tu : Int32) (dn : Int32) (kn : Int32) (ff : Nat → Int32) (fh : Nat → Int32) (tr : Nat) (lk : Nat) (vp : Nat) (vd : Nat) (vt : Nat) (vg : Nat) (vw : Nat) (ve : Nat) (vo : Nat) (vq : Nat) (qd : Int32) (pp : Int32) (ct : Int32) (sv : Int32) : kt_Mv l yX10_endPlay wsX10_endPlay { frames := 3, cells := 0, slots := 0, locals := 63 } D (kt_ty cI cZ cB) [.ref kt] sz [(kt, .inr (10, [.ref to, .ref la, .ref ru, .ref pl, .ref ho, .ref so])), (pl, .inr (4, [.ref la, .ref ru, .ref nw, .ref lo, .int st])), (ru, .inr (6, [.ref la, .ref gr, .ref rk, .ref rs, .ref rt, .int tt, .int kg, .ref rv, .int vc])), (nw, .inr (8, [.ref sf, .ref sh, .int tu])), (sf, .inl (cI, 40, .inl ff)), (sh, .inl (cI, 81, .inl fh)), (lo, .inr (3, [.ref l0, .ref l1, .ref l2, .ref l3, .ref l4, .ref l5, .ref l6, .int dn, .int kn])), (so, .inr (7, [.ref ru, .ref tr, .ref lk, .ref vp, .ref vd, .ref vt, .ref vg, .ref vw, .ref ve, .ref vo, .ref vq, .int qd, .int pp, .int ct, .int sv]))] (fun (u : Unit) => True) (fun (u : Unit) => [(kt, .inr (10, [.ref to, .ref la, .ref ru, .ref pl, .ref ho, .ref so])), (pl, .inr (4, [.ref la, .ref ru, .ref nw, .ref lo, .int 0])), (ru, .inr (6, [.ref la, .ref gr, .ref rk, .ref rs, .ref rt, .int 0, .int (-1), .ref rv, .int vc])), (nw, .inr (8, [.ref sf, .ref sh, .int 0])), (sf, .inl (cI, 40, .inl (fun _ => (-1)))), (sh, .inl (cI, 81, .inl (fun _ => (-1)))), (lo, .inr (3, [.ref l0, .ref l1, .ref l2, .ref l3, .ref l4, .ref l5, .ref l6, .int 0, .int 0])), (so, .inr (7, [.ref ru, .ref tr, .ref lk, .ref vp, .ref vd, .ref vt, .ref vg, .ref vw, .ref ve, .ref vo, .ref vq, .int qd, .int pp, .int ct, .int 0]))]) 0 0 := by
  refine kt_Mv.of (cc := cX10_endPlay) (maxL := 1) (ret := none) (by decide) rfl (Nat.le_of_ble_eq_true rfl) ?_
  intro p e s m below meth c A ls H hAt hP hD hS hl
  obtain ⟨hx, hb, hr, hml, hown, hts, hN, hK, hlk, hnm, hA⟩ := hAt
  have hl : lv_has ls 1 [(0, .ref kt)] := hl
  have hown : s.vm.findClass RX10 = some m.cls := hown
  refine lv_aload_n hx hb dX10_endPlay_0 rfl (lv_at hl 0 rfl) ?_
  refine va_get (D := D) (ci := 10) (C := RX10) (T := TX10) (N := 6) hx hb hts iw_X10_endPlay_X10 hown hK hP 0 rfl rfl 3 (by decide) (hts (.fieldLink RX10 37 "KingTable" "play" "LKingTable$Play;") (by decide +kernel)) (fun _ h9 => h9) rfl dX10_endPlay_1 ?_
  refine kt_bv (wc := [(pl, .inr (4, [.ref la, .ref ru, .ref nw, .ref lo, .int st])), (ru, .inr (6, [.ref la, .ref gr, .ref rk, .ref rs, .ref rt, .int tt, .int kg, .ref rv, .int vc])), (nw, .inr (8, [.ref sf, .ref sh, .int tu])), (sf, .inl (cI, 40, .inl ff)), (sh, .inl (cI, 81, .inl fh)), (lo, .inr (3, [.ref l0, .ref l1, .ref l2, .ref l3, .ref l4, .ref l5, .ref l6, .int dn, .int kn]))]) (wr := [(kt, .inr (10, [.ref to, .ref la, .ref ru, .ref pl, .ref ho, .ref so])), (so, .inr (7, [.ref ru, .ref tr, .ref lk, .ref vp, .ref vd, .ref vt, .ref vg, .ref vw, .ref ve, .ref vo, .ref vq, .int qd, .int pp, .int ct, .int sv]))]) [1, 2, 3, 4, 5, 6] [0, 7] hP hD hS hA rfl rfl (by decide) (by decide) (by decide) (fun hPc hDc => va_runV (As := []) (rest := []) ⟨hx, hb, hml, hown, hts⟩ (c_X4_finish l D cI cZ cB H.size pl la ru nw lo gr rk rs rt rv sf sh l0 l1 l2 l3 l4 l5 l6 st tt kg vc tu dn kn ff fh ) (cwV 0 hts gX10_endPlay_X4_finish rfl rfl rfl (by decide +kernel) ⟨Nat.le_of_ble_eq_true rfl, Nat.le_of_ble_eq_true rfl⟩) (kt_preV hN hK hPc hDc 0 (ci := 4) (q := (RX4, TX4, 5)) rfl rfl) rfl rfl hl.1 rfl (lv_room (Nat.le_of_ble_eq_true rfl)) dX10_endPlay_4 ⟨Nat.le_of_ble_eq_true rfl, Nat.le_of_ble_eq_true rfl⟩) (fun u_ H locs hw_4 hP hD hS => ?_)
  have hP : va_P D vwCl [(kt, .inr (10, [.ref to, .ref la, .ref ru, .ref pl, .ref ho, .ref so])), (pl, .inr (4, [.ref la, .ref ru, .ref nw, .ref lo, .int 0])), (ru, .inr (6, [.ref la, .ref gr, .ref rk, .ref rs, .ref rt, .int 0, .int (-1), .ref rv, .int vc])), (nw, .inr (8, [.ref sf, .ref sh, .int 0])), (sf, .inl (cI, 40, .inl (fun _ => (-1)))), (sh, .inl (cI, 81, .inl (fun _ => (-1)))), (lo, .inr (3, [.ref l0, .ref l1, .ref l2, .ref l3, .ref l4, .ref l5, .ref l6, .int 0, .int 0])), (so, .inr (7, [.ref ru, .ref tr, .ref lk, .ref vp, .ref vd, .ref vt, .ref vg, .ref vw, .ref ve, .ref vo, .ref vq, .int qd, .int pp, .int ct, .int sv]))] H := hP.sub [0, 2, 3, 4, 5, 6, 7, 1] rfl
  have hD : va_D A [(kt, .inr (10, [.ref to, .ref la, .ref ru, .ref pl, .ref ho, .ref so])), (pl, .inr (4, [.ref la, .ref ru, .ref nw, .ref lo, .int 0])), (ru, .inr (6, [.ref la, .ref gr, .ref rk, .ref rs, .ref rt, .int 0, .int (-1), .ref rv, .int vc])), (nw, .inr (8, [.ref sf, .ref sh, .int 0])), (sf, .inl (cI, 40, .inl (fun _ => (-1)))), (sh, .inl (cI, 81, .inl (fun _ => (-1)))), (lo, .inr (3, [.ref l0, .ref l1, .ref l2, .ref l3, .ref l4, .ref l5, .ref l6, .int 0, .int 0])), (so, .inr (7, [.ref ru, .ref tr, .ref lk, .ref vp, .ref vd, .ref vt, .ref vg, .ref vw, .ref ve, .ref vo, .ref vq, .int qd, .int pp, .int ct, .int sv]))] := hD.sub [0, 2, 3, 4, 5, 6, 7, 1] (by decide) rfl
  refine lv_aload_n hx hb dX10_endPlay_7 rfl (lv_at hl 0 rfl) ?_
  refine va_get (D := D) (ci := 10) (C := RX10) (T := TX10) (N := 6) hx hb hts iw_X10_endPlay_X10 hown hK hP 0 rfl rfl 5 (by decide) (hts (.fieldLink RX10 53 "KingTable" "solver" "LKingTable$Solver;") (by decide +kernel)) (fun _ h9 => h9) rfl dX10_endPlay_8 ?_
  refine kt_bv (wc := [(so, .inr (7, [.ref ru, .ref tr, .ref lk, .ref vp, .ref vd, .ref vt, .ref vg, .ref vw, .ref ve, .ref vo, .ref vq, .int qd, .int pp, .int ct, .int sv]))]) (wr := [(kt, .inr (10, [.ref to, .ref la, .ref ru, .ref pl, .ref ho, .ref so])), (pl, .inr (4, [.ref la, .ref ru, .ref nw, .ref lo, .int 0])), (ru, .inr (6, [.ref la, .ref gr, .ref rk, .ref rs, .ref rt, .int 0, .int (-1), .ref rv, .int vc])), (nw, .inr (8, [.ref sf, .ref sh, .int 0])), (sf, .inl (cI, 40, .inl (fun _ => (-1)))), (sh, .inl (cI, 81, .inl (fun _ => (-1)))), (lo, .inr (3, [.ref l0, .ref l1, .ref l2, .ref l3, .ref l4, .ref l5, .ref l6, .int 0, .int 0]))]) [7] [0, 1, 2, 3, 4, 5, 6] hP hD hS hA rfl rfl (by decide) (by decide) (by decide) (fun hPc hDc => va_runV (As := []) (rest := []) ⟨hx, hb, hml, hown, hts⟩ (c_X7_forget l D cI cZ cB H.size so ru tr lk vp vd vt vg vw ve vo vq qd pp ct sv ) (cwV 0 hts gX10_endPlay_X7_forget rfl rfl rfl (by decide +kernel) ⟨Nat.le_of_ble_eq_true rfl, Nat.le_of_ble_eq_true rfl⟩) (kt_preV hN hK hPc hDc 0 (ci := 7) (q := (RX7, TX7, 15)) rfl rfl) rfl rfl hl.1 rfl (lv_room (Nat.le_of_ble_eq_true rfl)) dX10_endPlay_11 ⟨Nat.le_of_ble_eq_true rfl, Nat.le_of_ble_eq_true rfl⟩) (fun u_ H locs hw_11 hP hD hS => ?_)
  have hP : va_P D vwCl [(kt, .inr (10, [.ref to, .ref la, .ref ru, .ref pl, .ref ho, .ref so])), (pl, .inr (4, [.ref la, .ref ru, .ref nw, .ref lo, .int 0])), (ru, .inr (6, [.ref la, .ref gr, .ref rk, .ref rs, .ref rt, .int 0, .int (-1), .ref rv, .int vc])), (nw, .inr (8, [.ref sf, .ref sh, .int 0])), (sf, .inl (cI, 40, .inl (fun _ => (-1)))), (sh, .inl (cI, 81, .inl (fun _ => (-1)))), (lo, .inr (3, [.ref l0, .ref l1, .ref l2, .ref l3, .ref l4, .ref l5, .ref l6, .int 0, .int 0])), (so, .inr (7, [.ref ru, .ref tr, .ref lk, .ref vp, .ref vd, .ref vt, .ref vg, .ref vw, .ref ve, .ref vo, .ref vq, .int qd, .int pp, .int ct, .int 0]))] H := hP.sub [0, 1, 2, 3, 4, 5, 6, 7] rfl
  have hD : va_D A [(kt, .inr (10, [.ref to, .ref la, .ref ru, .ref pl, .ref ho, .ref so])), (pl, .inr (4, [.ref la, .ref ru, .ref nw, .ref lo, .int 0])), (ru, .inr (6, [.ref la, .ref gr, .ref rk, .ref rs, .ref rt, .int 0, .int (-1), .ref rv, .int vc])), (nw, .inr (8, [.ref sf, .ref sh, .int 0])), (sf, .inl (cI, 40, .inl (fun _ => (-1)))), (sh, .inl (cI, 81, .inl (fun _ => (-1)))), (lo, .inr (3, [.ref l0, .ref l1, .ref l2, .ref l3, .ref l4, .ref l5, .ref l6, .int 0, .int 0])), (so, .inr (7, [.ref ru, .ref tr, .ref lk, .ref vp, .ref vd, .ref vt, .ref vg, .ref vw, .ref ve, .ref vo, .ref vq, .int qd, .int pp, .int ct, .int 0]))] := hD.sub [0, 1, 2, 3, 4, 5, 6, 7] (by decide) rfl
  exact kt_rv () hx hb hr hlk hS dX10_endPlay_14 hP hD (by first | rfl | trivial | assumption | (simp_all; done) | grind)

theorem iw_X10_board_X10 : ∀ w ∈ wsX100, w ∈ wsX10_board := by decide +kernel
set_option maxHeartbeats 4000000 in
set_option maxRecDepth 100000 in
theorem f_X10_board (l : Launch) (D : va_G) (cI cZ cB : ClassId) (sz : Nat) (kt : Nat) (to : Nat) (la : Nat) (ru : Nat) (pl : Nat) (ho : Nat) (so : Nat) (sg : Nat) (nw : Nat) (lo : Nat) (gr : Nat) (rk : Nat) (rs : Nat) (rt : Nat) (rv : Nat) (sf : Nat) (sh : Nat) (l0 : Nat) (l1 : Nat) (l2 : Nat) (l3 : Nat) (l4 : Nat) (l5 : Nat) (l6 : Nat) (tr : Nat) (lk : Nat) (vp : Nat) (vd : Nat) (vt : Nat) (vg : Nat) (vw : Nat) (ve : Nat) (vo : Nat) (vq : Nat) (p1 : Int32) (p2 : Int32) : kt_Mi l yX10_board wsX10_board { frames := 4, cells := 0, slots := 0, locals := 83 } D (kt_ty cI cZ cB) [.ref kt, .int p1, .int p2] sz [(kt, .inr (10, [.ref to, .ref la, .ref ru, .ref pl, .ref ho, .ref so])), (to, .inr (9, [.ref sg, .int 3, .int 3])), (sg, .inl (cI, 81, .inl (fun _ => 0))), (pl, .inr (4, [.ref la, .ref ru, .ref nw, .ref lo, .int 0])), (ru, .inr (6, [.ref la, .ref gr, .ref rk, .ref rs, .ref rt, .int 0, .int (-1), .ref rv, .int 0])), (nw, .inr (8, [.ref sf, .ref sh, .int 0])), (sf, .inl (cI, 40, .inl (fun _ => (-1)))), (sh, .inl (cI, 81, .inl (fun _ => (-1)))), (lo, .inr (3, [.ref l0, .ref l1, .ref l2, .ref l3, .ref l4, .ref l5, .ref l6, .int 0, .int 0])), (so, .inr (7, [.ref ru, .ref tr, .ref lk, .ref vp, .ref vd, .ref vt, .ref vg, .ref vw, .ref ve, .ref vo, .ref vq, .int 0, .int 0, .int 0, .int 0]))] (fun (r : Int32) (u : Int32 × Int32 × (Nat → Int32)) => kt_B r (2 ≤ p1 ∧ p1 ≤ 9 ∧ 2 ≤ p2 ∧ p2 ≤ 9)) (fun (u : Int32 × Int32 × (Nat → Int32)) => [(kt, .inr (10, [.ref to, .ref la, .ref ru, .ref pl, .ref ho, .ref so])), (to, .inr (9, [.ref sg, .int u.1, .int u.2.1])), (sg, .inl (cI, 81, .inl u.2.2)), (pl, .inr (4, [.ref la, .ref ru, .ref nw, .ref lo, .int 0])), (ru, .inr (6, [.ref la, .ref gr, .ref rk, .ref rs, .ref rt, .int 0, .int (-1), .ref rv, .int 0])), (nw, .inr (8, [.ref sf, .ref sh, .int 0])), (sf, .inl (cI, 40, .inl (fun _ => (-1)))), (sh, .inl (cI, 81, .inl (fun _ => (-1)))), (lo, .inr (3, [.ref l0, .ref l1, .ref l2, .ref l3, .ref l4, .ref l5, .ref l6, .int 0, .int 0])), (so, .inr (7, [.ref ru, .ref tr, .ref lk, .ref vp, .ref vd, .ref vt, .ref vg, .ref vw, .ref ve, .ref vo, .ref vq, .int 0, .int 0, .int 0, .int 0]))]) 0 0 := by
  refine kt_Mi.of (cc := cX10_board) (maxL := 3) (ret := some .boolean) (by decide) rfl (Nat.le_of_ble_eq_true rfl) ?_
  intro p e s m below meth c A ls H hAt hP hD hS hl
  obtain ⟨hx, hb, hr, hml, hown, hts, hN, hK, hlk, hnm, hA⟩ := hAt
  have hl : lv_has ls 3 [(0, .ref kt), (1, .int p1), (2, .int p2)] := hl
  have hown : s.vm.findClass RX10 = some m.cls := hown
  refine lv_aload_n hx hb dX10_board_0 rfl (lv_at hl 0 rfl) ?_
  refine va_get (D := D) (ci := 10) (C := RX10) (T := TX10) (N := 6) hx hb hts iw_X10_board_X10 hown hK hP 0 rfl rfl 0 (by decide) (hts (.fieldLink RX10 10 "KingTable" "told" "LKingTable$Told;") (by decide +kernel)) (fun _ h9 => h9) rfl dX10_board_1 ?_
  refine lv_iload_n hx hb dX10_board_4 rfl (lv_at hl 1 rfl) ?_
  refine lv_iload_n hx hb dX10_board_5 rfl (lv_at hl 2 rfl) ?_
  refine kt_bi (wc := [(to, .inr (9, [.ref sg, .int 3, .int 3])), (sg, .inl (cI, 81, .inl (fun _ => 0)))]) (wr := [(kt, .inr (10, [.ref to, .ref la, .ref ru, .ref pl, .ref ho, .ref so])), (pl, .inr (4, [.ref la, .ref ru, .ref nw, .ref lo, .int 0])), (ru, .inr (6, [.ref la, .ref gr, .ref rk, .ref rs, .ref rt, .int 0, .int (-1), .ref rv, .int 0])), (nw, .inr (8, [.ref sf, .ref sh, .int 0])), (sf, .inl (cI, 40, .inl (fun _ => (-1)))), (sh, .inl (cI, 81, .inl (fun _ => (-1)))), (lo, .inr (3, [.ref l0, .ref l1, .ref l2, .ref l3, .ref l4, .ref l5, .ref l6, .int 0, .int 0])), (so, .inr (7, [.ref ru, .ref tr, .ref lk, .ref vp, .ref vd, .ref vt, .ref vg, .ref vw, .ref ve, .ref vo, .ref vq, .int 0, .int 0, .int 0, .int 0]))]) [1, 2] [0, 3, 4, 5, 6, 7, 8, 9] hP hD hS hA rfl rfl (by decide) (by decide) (by decide) (fun hPc hDc => va_runV (As := [.int p1, .int p2]) (rest := []) ⟨hx, hb, hml, hown, hts⟩ (c_X9_renew l D cI cZ cB H.size to sg 3 3 (fun _ => 0) p1 p2 ) (cwV 2 hts gX10_board_X9_renew rfl rfl rfl (by decide +kernel) ⟨Nat.le_of_ble_eq_true rfl, Nat.le_of_ble_eq_true rfl⟩) (kt_preV hN hK hPc hDc 0 (ci := 9) (q := (RX9, TX9, 3)) rfl rfl) rfl rfl hl.1 rfl (lv_room (Nat.le_of_ble_eq_true rfl)) dX10_board_6 ⟨Nat.le_of_ble_eq_true rfl, Nat.le_of_ble_eq_true rfl⟩) (fun r_6 u_ H locs hw_6 hP hD hS => ?_)
  obtain ⟨ln2_6, wd2_6, fs2_6⟩ := u_
  have hP : va_P D vwCl [(kt, .inr (10, [.ref to, .ref la, .ref ru, .ref pl, .ref ho, .ref so])), (to, .inr (9, [.ref sg, .int ln2_6, .int wd2_6])), (sg, .inl (cI, 81, .inl fs2_6)), (pl, .inr (4, [.ref la, .ref ru, .ref nw, .ref lo, .int 0])), (ru, .inr (6, [.ref la, .ref gr, .ref rk, .ref rs, .ref rt, .int 0, .int (-1), .ref rv, .int 0])), (nw, .inr (8, [.ref sf, .ref sh, .int 0])), (sf, .inl (cI, 40, .inl (fun _ => (-1)))), (sh, .inl (cI, 81, .inl (fun _ => (-1)))), (lo, .inr (3, [.ref l0, .ref l1, .ref l2, .ref l3, .ref l4, .ref l5, .ref l6, .int 0, .int 0])), (so, .inr (7, [.ref ru, .ref tr, .ref lk, .ref vp, .ref vd, .ref vt, .ref vg, .ref vw, .ref ve, .ref vo, .ref vq, .int 0, .int 0, .int 0, .int 0]))] H := hP.sub [0, 8, 9, 1, 2, 3, 4, 5, 6, 7] rfl
  have hD : va_D A [(kt, .inr (10, [.ref to, .ref la, .ref ru, .ref pl, .ref ho, .ref so])), (to, .inr (9, [.ref sg, .int ln2_6, .int wd2_6])), (sg, .inl (cI, 81, .inl fs2_6)), (pl, .inr (4, [.ref la, .ref ru, .ref nw, .ref lo, .int 0])), (ru, .inr (6, [.ref la, .ref gr, .ref rk, .ref rs, .ref rt, .int 0, .int (-1), .ref rv, .int 0])), (nw, .inr (8, [.ref sf, .ref sh, .int 0])), (sf, .inl (cI, 40, .inl (fun _ => (-1)))), (sh, .inl (cI, 81, .inl (fun _ => (-1)))), (lo, .inr (3, [.ref l0, .ref l1, .ref l2, .ref l3, .ref l4, .ref l5, .ref l6, .int 0, .int 0])), (so, .inr (7, [.ref ru, .ref tr, .ref lk, .ref vp, .ref vd, .ref vt, .ref vg, .ref vw, .ref ve, .ref vo, .ref vq, .int 0, .int 0, .int 0, .int 0]))] := hD.sub [0, 8, 9, 1, 2, 3, 4, 5, 6, 7] (by decide) rfl
  try dsimp only at hw_6
  have hB : kt_B r_6 (2 ≤ p1 ∧ p1 ≤ 9 ∧ 2 ≤ p2 ∧ p2 ≤ 9) := by
    rcases hw_6 with ⟨h1, h2, -⟩ | ⟨h1, h2, -⟩
    · exact Or.inl ⟨h1, h2⟩
    · exact Or.inr ⟨h1, h2⟩
  refine lv_if_ne (tgt := 14) hx hb dX10_board_9 (by decide) (fun c_9 => ?_) (fun c_9 => ?_)
  · refine lv_aload_n hx hb dX10_board_14 rfl (lv_at hl 0 rfl) ?_
    refine kt_bv (wc := [(kt, .inr (10, [.ref to, .ref la, .ref ru, .ref pl, .ref ho, .ref so])), (pl, .inr (4, [.ref la, .ref ru, .ref nw, .ref lo, .int 0])), (ru, .inr (6, [.ref la, .ref gr, .ref rk, .ref rs, .ref rt, .int 0, .int (-1), .ref rv, .int 0])), (nw, .inr (8, [.ref sf, .ref sh, .int 0])), (sf, .inl (cI, 40, .inl (fun _ => (-1)))), (sh, .inl (cI, 81, .inl (fun _ => (-1)))), (lo, .inr (3, [.ref l0, .ref l1, .ref l2, .ref l3, .ref l4, .ref l5, .ref l6, .int 0, .int 0])), (so, .inr (7, [.ref ru, .ref tr, .ref lk, .ref vp, .ref vd, .ref vt, .ref vg, .ref vw, .ref ve, .ref vo, .ref vq, .int 0, .int 0, .int 0, .int 0]))]) (wr := [(to, .inr (9, [.ref sg, .int ln2_6, .int wd2_6])), (sg, .inl (cI, 81, .inl fs2_6))]) [0, 3, 4, 5, 6, 7, 8, 9] [1, 2] hP hD hS hA rfl rfl (by decide) (by decide) (by decide) (fun hPc hDc => va_runV (As := []) (rest := []) ⟨hx, hb, hml, hown, hts⟩ (c_X10_endPlay l D cI cZ cB H.size kt to ho so pl la ru nw lo gr rk rs rt rv sf sh l0 l1 l2 l3 l4 l5 l6 0 0 (-1) 0 0 0 0 (fun _ => (-1)) (fun _ => (-1)) tr lk vp vd vt vg vw ve vo vq 0 0 0 0 ) (cwV 0 hts gX10_board_X10_endPlay rfl rfl rfl (by decide +kernel) ⟨Nat.le_of_ble_eq_true rfl, Nat.le_of_ble_eq_true rfl⟩) (kt_preV hN hK hPc hDc 0 (ci := 10) (q := (RX10, TX10, 6)) rfl rfl) rfl rfl hl.1 rfl (lv_room (Nat.le_of_ble_eq_true rfl)) dX10_board_15 ⟨Nat.le_of_ble_eq_true rfl, Nat.le_of_ble_eq_true rfl⟩) (fun u_ H locs hw_15 hP hD hS => ?_)
    have hP : va_P D vwCl [(kt, .inr (10, [.ref to, .ref la, .ref ru, .ref pl, .ref ho, .ref so])), (to, .inr (9, [.ref sg, .int ln2_6, .int wd2_6])), (sg, .inl (cI, 81, .inl fs2_6)), (pl, .inr (4, [.ref la, .ref ru, .ref nw, .ref lo, .int 0])), (ru, .inr (6, [.ref la, .ref gr, .ref rk, .ref rs, .ref rt, .int 0, .int (-1), .ref rv, .int 0])), (nw, .inr (8, [.ref sf, .ref sh, .int 0])), (sf, .inl (cI, 40, .inl (fun _ => (-1)))), (sh, .inl (cI, 81, .inl (fun _ => (-1)))), (lo, .inr (3, [.ref l0, .ref l1, .ref l2, .ref l3, .ref l4, .ref l5, .ref l6, .int 0, .int 0])), (so, .inr (7, [.ref ru, .ref tr, .ref lk, .ref vp, .ref vd, .ref vt, .ref vg, .ref vw, .ref ve, .ref vo, .ref vq, .int 0, .int 0, .int 0, .int 0]))] H := hP.sub [2, 0, 1, 3, 4, 5, 6, 7, 8, 9] rfl
    have hD : va_D A [(kt, .inr (10, [.ref to, .ref la, .ref ru, .ref pl, .ref ho, .ref so])), (to, .inr (9, [.ref sg, .int ln2_6, .int wd2_6])), (sg, .inl (cI, 81, .inl fs2_6)), (pl, .inr (4, [.ref la, .ref ru, .ref nw, .ref lo, .int 0])), (ru, .inr (6, [.ref la, .ref gr, .ref rk, .ref rs, .ref rt, .int 0, .int (-1), .ref rv, .int 0])), (nw, .inr (8, [.ref sf, .ref sh, .int 0])), (sf, .inl (cI, 40, .inl (fun _ => (-1)))), (sh, .inl (cI, 81, .inl (fun _ => (-1)))), (lo, .inr (3, [.ref l0, .ref l1, .ref l2, .ref l3, .ref l4, .ref l5, .ref l6, .int 0, .int 0])), (so, .inr (7, [.ref ru, .ref tr, .ref lk, .ref vp, .ref vd, .ref vt, .ref vg, .ref vw, .ref ve, .ref vo, .ref vq, .int 0, .int 0, .int 0, .int 0]))] := hD.sub [2, 0, 1, 3, 4, 5, 6, 7, 8, 9] (by decide) rfl
    refine lv_iconst (v := 1) hx hb dX10_board_18 (by decide) ?_
    exact kt_rz (ln2_6, wd2_6, fs2_6) hx hb hr hlk hS dX10_board_19 hP hD (by first | exact Or.inl ⟨rfl, hB.t c_9⟩ | exact Or.inr ⟨rfl, hB.f c_9⟩) rfl
  · refine lv_iconst (v := 0) hx hb dX10_board_12 (by decide) ?_
    exact kt_rz (ln2_6, wd2_6, fs2_6) hx hb hr hlk hS dX10_board_13 hP hD (by first | exact Or.inl ⟨rfl, hB.t c_9⟩ | exact Or.inr ⟨rfl, hB.f c_9⟩) rfl

theorem iw_X10_line_X10 : ∀ w ∈ wsX100, w ∈ wsX10_line := by decide +kernel
set_option maxHeartbeats 4000000 in
set_option maxRecDepth 100000 in
theorem f_X10_line (l : Launch) (D : va_G) (cI cZ cB : ClassId) (sz : Nat) (kt : Nat) (to : Nat) (la : Nat) (ru : Nat) (pl : Nat) (ho : Nat) (so : Nat) (sg : Nat) (nw : Nat) (lo : Nat) (p1 : Int32) (p2 : Int32) (p3 : Int32) : kt_Mi l yX10_line wsX10_line { frames := 1, cells := 0, slots := 0, locals := 24 } D (kt_ty cI cZ cB) [.ref kt, .int p1, .int p2, .int p3] sz [(kt, .inr (10, [.ref to, .ref la, .ref ru, .ref pl, .ref ho, .ref so])), (pl, .inr (4, [.ref la, .ref ru, .ref nw, .ref lo, .int 0])), (to, .inr (9, [.ref sg, .int 3, .int 3])), (sg, .inl (cI, 81, .inl (fun _ => 0)))] (fun (r : Int32) (u : (Nat → Int32)) => kt_B r (0 ≤ p1 ∧ p1 < 3 ∧ 0 ≤ p2 ∧ p2 ≤ 3)) (fun (u : (Nat → Int32)) => [(kt, .inr (10, [.ref to, .ref la, .ref ru, .ref pl, .ref ho, .ref so])), (pl, .inr (4, [.ref la, .ref ru, .ref nw, .ref lo, .int 0])), (to, .inr (9, [.ref sg, .int 3, .int 3])), (sg, .inl (cI, 81, .inl u))]) 0 0 := by
  refine kt_Mi.of (cc := cX10_line) (maxL := 4) (ret := some .boolean) (by decide) rfl (Nat.le_of_ble_eq_true rfl) ?_
  intro p e s m below meth c A ls H hAt hP hD hS hl
  obtain ⟨hx, hb, hr, hml, hown, hts, hN, hK, hlk, hnm, hA⟩ := hAt
  have hl : lv_has ls 4 [(0, .ref kt), (1, .int p1), (2, .int p2), (3, .int p3)] := hl
  have hown : s.vm.findClass RX10 = some m.cls := hown
  refine lv_aload_n hx hb dX10_line_0 rfl (lv_at hl 0 rfl) ?_
  refine va_get (D := D) (ci := 10) (C := RX10) (T := TX10) (N := 6) hx hb hts iw_X10_line_X10 hown hK hP 0 rfl rfl 3 (by decide) (hts (.fieldLink RX10 37 "KingTable" "play" "LKingTable$Play;") (by decide +kernel)) (fun _ h9 => h9) rfl dX10_line_1 ?_
  refine kt_pi (wc := [(pl, .inr (4, [.ref la, .ref ru, .ref nw, .ref lo, .int 0]))]) [1] hP hD hS hA rfl (by decide) (fun hPc hDc => va_runV (As := []) (rest := []) ⟨hx, hb, hml, hown, hts⟩ (f_X4_isThere l D cI cZ cB H.size pl la ru nw lo ) (cwV 0 hts gX10_line_X4_isThere rfl rfl rfl (by decide +kernel) ⟨Nat.le_of_ble_eq_true rfl, Nat.le_of_ble_eq_true rfl⟩) (kt_preV hN hK hPc hDc 0 (ci := 4) (q := (RX4, TX4, 5)) rfl rfl) rfl rfl hl.1 rfl (lv_room (Nat.le_of_ble_eq_true rfl)) dX10_line_4 ⟨Nat.le_of_ble_eq_true rfl, Nat.le_of_ble_eq_true rfl⟩) (fun r_4 _ H locs hw_4 hP hS => ?_)
  subst hw_4
  refine lv_if_ne (tgt := 27) hx hb dX10_line_7 (by decide) (fun c_7 => absurd c_7 (by decide)) (fun c_7 => ?_)
  refine lv_aload_n hx hb dX10_line_10 rfl (lv_at hl 0 rfl) ?_
  refine va_get (D := D) (ci := 10) (C := RX10) (T := TX10) (N := 6) hx hb hts iw_X10_line_X10 hown hK hP 0 rfl rfl 0 (by decide) (hts (.fieldLink RX10 10 "KingTable" "told" "LKingTable$Told;") (by decide +kernel)) (fun _ h9 => h9) rfl dX10_line_11 ?_
  refine lv_iload_n hx hb dX10_line_14 rfl (lv_at hl 1 rfl) ?_
  refine lv_iload_n hx hb dX10_line_15 rfl (lv_at hl 2 rfl) ?_
  refine lv_iload_n hx hb dX10_line_16 rfl (lv_at hl 3 rfl) ?_
  refine kt_bi (wc := [(to, .inr (9, [.ref sg, .int 3, .int 3])), (sg, .inl (cI, 81, .inl (fun _ => 0)))]) (wr := [(kt, .inr (10, [.ref to, .ref la, .ref ru, .ref pl, .ref ho, .ref so])), (pl, .inr (4, [.ref la, .ref ru, .ref nw, .ref lo, .int 0]))]) [2, 3] [0, 1] hP hD hS hA rfl rfl (by decide) (by decide) (by decide) (fun hPc hDc => va_runV (As := [.int p1, .int p2, .int p3]) (rest := []) ⟨hx, hb, hml, hown, hts⟩ (f_X9_tell l D cI cZ cB H.size to sg p1 p2 p3 ) (cwV 3 hts gX10_line_X9_tell rfl rfl rfl (by decide +kernel) ⟨Nat.le_of_ble_eq_true rfl, Nat.le_of_ble_eq_true rfl⟩) (kt_preV hN hK hPc hDc 0 (ci := 9) (q := (RX9, TX9, 3)) rfl rfl) rfl rfl hl.1 rfl (lv_room (Nat.le_of_ble_eq_true rfl)) dX10_line_17 ⟨Nat.le_of_ble_eq_true rfl, Nat.le_of_ble_eq_true rfl⟩) (fun r_17 u_ H locs hw_17 hP hD hS => ?_)
  obtain ⟨g2_17, rfl⟩ : ∃ z, z = u_ := ⟨_, rfl⟩
  have hP : va_P D vwCl [(kt, .inr (10, [.ref to, .ref la, .ref ru, .ref pl, .ref ho, .ref so])), (pl, .inr (4, [.ref la, .ref ru, .ref nw, .ref lo, .int 0])), (to, .inr (9, [.ref sg, .int 3, .int 3])), (sg, .inl (cI, 81, .inl g2_17))] H := hP.sub [0, 1, 2, 3] rfl
  have hD : va_D A [(kt, .inr (10, [.ref to, .ref la, .ref ru, .ref pl, .ref ho, .ref so])), (pl, .inr (4, [.ref la, .ref ru, .ref nw, .ref lo, .int 0])), (to, .inr (9, [.ref sg, .int 3, .int 3])), (sg, .inl (cI, 81, .inl g2_17))] := hD.sub [0, 1, 2, 3] (by decide) rfl
  try dsimp only at hw_17
  refine lv_if_eq (tgt := 27) hx hb dX10_line_20 (by decide) (fun c_20 => ?_) (fun c_20 => ?_)
  · refine lv_iconst (v := 0) hx hb dX10_line_27 (by decide) ?_
    exact kt_rz g2_17 hx hb hr hlk hS dX10_line_28 hP hD (by first | exact Or.inl ⟨rfl, hw_17.t c_20⟩ | exact Or.inr ⟨rfl, hw_17.f c_20⟩) rfl
  · refine lv_iconst (v := 1) hx hb dX10_line_23 (by decide) ?_
    refine lv_goto (tgt := 28) hx hb dX10_line_24 (by decide) ?_
    exact kt_rz g2_17 hx hb hr hlk hS dX10_line_28 hP hD (by first | exact Or.inl ⟨rfl, hw_17.t c_20⟩ | exact Or.inr ⟨rfl, hw_17.f c_20⟩) rfl

theorem iw_X10_law_X10 : ∀ w ∈ wsX100, w ∈ wsX10_law := by decide +kernel
set_option maxHeartbeats 4000000 in
set_option maxRecDepth 100000 in
theorem f_X10_law (l : Launch) (D : va_G) (cI cZ cB : ClassId) (sz : Nat) (kt : Nat) (to : Nat) (la : Nat) (ru : Nat) (pl : Nat) (ho : Nat) (so : Nat) (nw : Nat) (lo : Nat) (p1 : Int32) (p2 : Int32) (p3 : Int32) (p4 : Int32) (p5 : Int32) (hz : narrow .boolean (.int p3) = .int p3) (hf : fits .boolean (.int p3) = true) : kt_Mi l yX10_law wsX10_law { frames := 1, cells := 0, slots := 0, locals := 26 } D (kt_ty cI cZ cB) [.ref kt, .int p1, .int p2, .int p3, .int p4, .int p5] sz [(kt, .inr (10, [.ref to, .ref la, .ref ru, .ref pl, .ref ho, .ref so])), (pl, .inr (4, [.ref la, .ref ru, .ref nw, .ref lo, .int 0])), (la, .inr (1, [.int 0, .int 4, .int 1, .int 0, .int 0]))] (fun (r : Int32) (u : Int32 × Int32 × Int32 × Int32 × Int32) => kt_B r ((p1 = 0 ∨ p1 = 1) ∧ (p2 = 2 ∨ p2 = 4) ∧ 0 ≤ p4 ∧ p4 ≤ 8 ∧ (p5 = 0 ∨ p5 = 1))) (fun (u : Int32 × Int32 × Int32 × Int32 × Int32) => [(kt, .inr (10, [.ref to, .ref la, .ref ru, .ref pl, .ref ho, .ref so])), (pl, .inr (4, [.ref la, .ref ru, .ref nw, .ref lo, .int 0])), (la, .inr (1, [.int u.1, .int u.2.1, .int u.2.2.1, .int u.2.2.2.1, .int u.2.2.2.2]))]) 0 0 := by
  refine kt_Mi.of (cc := cX10_law) (maxL := 6) (ret := some .boolean) (by decide) rfl (Nat.le_of_ble_eq_true rfl) ?_
  intro p e s m below meth c A ls H hAt hP hD hS hl
  obtain ⟨hx, hb, hr, hml, hown, hts, hN, hK, hlk, hnm, hA⟩ := hAt
  have hl : lv_has ls 6 [(0, .ref kt), (1, .int p1), (2, .int p2), (3, .int p3), (4, .int p4), (5, .int p5)] := hl
  have hown : s.vm.findClass RX10 = some m.cls := hown
  refine lv_aload_n hx hb dX10_law_0 rfl (lv_at hl 0 rfl) ?_
  refine va_get (D := D) (ci := 10) (C := RX10) (T := TX10) (N := 6) hx hb hts iw_X10_law_X10 hown hK hP 0 rfl rfl 3 (by decide) (hts (.fieldLink RX10 37 "KingTable" "play" "LKingTable$Play;") (by decide +kernel)) (fun _ h9 => h9) rfl dX10_law_1 ?_
  refine kt_pi (wc := [(pl, .inr (4, [.ref la, .ref ru, .ref nw, .ref lo, .int 0]))]) [1] hP hD hS hA rfl (by decide) (fun hPc hDc => va_runV (As := []) (rest := []) ⟨hx, hb, hml, hown, hts⟩ (f_X4_isThere l D cI cZ cB H.size pl la ru nw lo ) (cwV 0 hts gX10_law_X4_isThere rfl rfl rfl (by decide +kernel) ⟨Nat.le_of_ble_eq_true rfl, Nat.le_of_ble_eq_true rfl⟩) (kt_preV hN hK hPc hDc 0 (ci := 4) (q := (RX4, TX4, 5)) rfl rfl) rfl rfl hl.1 rfl (lv_room (Nat.le_of_ble_eq_true rfl)) dX10_law_4 ⟨Nat.le_of_ble_eq_true rfl, Nat.le_of_ble_eq_true rfl⟩) (fun r_4 _ H locs hw_4 hP hS => ?_)
  subst hw_4
  refine lv_if_ne (tgt := 31) hx hb dX10_law_7 (by decide) (fun c_7 => absurd c_7 (by decide)) (fun c_7 => ?_)
  refine lv_aload_n hx hb dX10_law_10 rfl (lv_at hl 0 rfl) ?_
  refine va_get (D := D) (ci := 10) (C := RX10) (T := TX10) (N := 6) hx hb hts iw_X10_law_X10 hown hK hP 0 rfl rfl 1 (by decide) (hts (.fieldLink RX10 19 "KingTable" "laws" "LKingTable$Laws;") (by decide +kernel)) (fun _ h9 => h9) rfl dX10_law_11 ?_
  refine lv_iload_n hx hb dX10_law_14 rfl (lv_at hl 1 rfl) ?_
  refine lv_iload_n hx hb dX10_law_15 rfl (lv_at hl 2 rfl) ?_
  refine lv_iload_n hx hb dX10_law_16 rfl (lv_at hl 3 rfl) ?_
  refine lv_iload hx hb dX10_law_17 (lv_at hl 4 rfl) ?_
  refine lv_iload hx hb dX10_law_19 (lv_at hl 5 rfl) ?_
  refine kt_bi (wc := [(la, .inr (1, [.int 0, .int 4, .int 1, .int 0, .int 0]))]) (wr := [(kt, .inr (10, [.ref to, .ref la, .ref ru, .ref pl, .ref ho, .ref so])), (pl, .inr (4, [.ref la, .ref ru, .ref nw, .ref lo, .int 0]))]) [2] [0, 1] hP hD hS hA rfl rfl (by decide) (by decide) (by decide) (fun hPc hDc => va_runV (As := [.int p1, .int p2, .int p3, .int p4, .int p5]) (rest := []) ⟨hx, hb, hml, hown, hts⟩ (c_X1_change l D cI cZ cB H.size la 0 4 1 0 0 p1 p2 p3 p4 p5 hz hf) (cwV 5 hts gX10_law_X1_change rfl rfl rfl (by decide +kernel) ⟨Nat.le_of_ble_eq_true rfl, Nat.le_of_ble_eq_true rfl⟩) (kt_preV hN hK hPc hDc 0 (ci := 1) (q := (RX1, TX1, 5)) rfl rfl) rfl rfl hl.1 rfl (lv_room (Nat.le_of_ble_eq_true rfl)) dX10_law_21 ⟨Nat.le_of_ble_eq_true rfl, Nat.le_of_ble_eq_true rfl⟩) (fun r_21 u_ H locs hw_21 hP hD hS => ?_)
  obtain ⟨n1_21, n2_21, n3_21, n4_21, n5_21⟩ := u_
  have hP : va_P D vwCl [(kt, .inr (10, [.ref to, .ref la, .ref ru, .ref pl, .ref ho, .ref so])), (pl, .inr (4, [.ref la, .ref ru, .ref nw, .ref lo, .int 0])), (la, .inr (1, [.int n1_21, .int n2_21, .int n3_21, .int n4_21, .int n5_21]))] H := hP.sub [0, 1, 2] rfl
  have hD : va_D A [(kt, .inr (10, [.ref to, .ref la, .ref ru, .ref pl, .ref ho, .ref so])), (pl, .inr (4, [.ref la, .ref ru, .ref nw, .ref lo, .int 0])), (la, .inr (1, [.int n1_21, .int n2_21, .int n3_21, .int n4_21, .int n5_21]))] := hD.sub [0, 1, 2] (by decide) rfl
  try dsimp only at hw_21
  refine lv_if_eq (tgt := 31) hx hb dX10_law_24 (by decide) (fun c_24 => ?_) (fun c_24 => ?_)
  · refine lv_iconst (v := 0) hx hb dX10_law_31 (by decide) ?_
    exact kt_rz (n1_21, n2_21, n3_21, n4_21, n5_21) hx hb hr hlk hS dX10_law_32 hP hD (by first | exact Or.inl ⟨rfl, hw_21.t c_24⟩ | exact Or.inr ⟨rfl, hw_21.f c_24⟩) rfl
  · refine lv_iconst (v := 1) hx hb dX10_law_27 (by decide) ?_
    refine lv_goto (tgt := 32) hx hb dX10_law_28 (by decide) ?_
    exact kt_rz (n1_21, n2_21, n3_21, n4_21, n5_21) hx hb hr hlk hS dX10_law_32 hP hD (by first | exact Or.inl ⟨rfl, hw_21.t c_24⟩ | exact Or.inr ⟨rfl, hw_21.f c_24⟩) rfl
