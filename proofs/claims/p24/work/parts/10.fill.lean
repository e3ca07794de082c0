set_option maxHeartbeats 4000000 in
set_option maxRecDepth 100000 in
theorem c_fill (l : Launch) (D : va_G) (cI cZ cB : ClassId) (sz : Nat) (a : Nat) (N0 : Nat) (f : Nat → Int32) (v : Int32) (hN0 : N0 < 1000000) : kt_Mv l yJ7_fill_53178 wsJ7_fill_53178 { frames := 0, cells := 0, slots := 0, locals := 0 } D (kt_ty cI cZ cB) [.ref a, .int v] sz [(a, .inl (cI, N0, .inl f))] (fun (u : Unit) => True) (fun (u : Unit) => [(a, .inl (cI, N0, .inl (fun _ => v)))]) 0 0 := by
  refine kt_Mv.of (cc := cJ7_fill_53178) (maxL := 4) (ret := none) (by decide) rfl (Nat.le_of_ble_eq_true rfl) ?_
  intro p e s m below meth c A ls H hAt hP hD hS hl
  obtain ⟨hx, hb, hr, hml, hown, hts, hN, hK, hlk, hnm, hA⟩ := hAt
  have hl : lv_has ls 4 [(0, .ref a), (1, .int v)] := hl
  have hown : s.vm.findClass RJ7 = some m.cls := hown
  refine lv_iconst (v := 0) hx hb dJ7_fill_53178_0 (by decide) ?_
  refine lv_istore_n (lv' := [(2, .int 0), (0, .ref a), (1, .int v)]) hx hb dJ7_fill_53178_1 rfl hl (by decide) rfl (fun ls hl => ?_)
  refine lv_aload_n hx hb dJ7_fill_53178_2 rfl (lv_at hl 1 rfl) ?_
  refine va_alen hx hb hK hP 0 0 rfl rfl (v := nI N0) rfl dJ7_fill_53178_3 ?_
  refine lv_istore_n (lv' := [(3, .int (nI N0)), (2, .int 0), (0, .ref a), (1, .int v)]) hx hb dJ7_fill_53178_4 rfl hl (by decide) rfl (fun ls hl => ?_)
  refine kt_loop (σ := Nat × (Nat → Int32)) 5 4 (fun u => [(a, .inl (cI, N0, .inl u.2))]) (fun u => [(3, .int (nI N0)), (2, .int (nI u.1)), (0, .ref a), (1, .int v)]) (fun n u => u.1 ≤ N0 ∧ N0 < u.1 + n ∧ ∀ j, j < u.1 → u.2 j = v) (fun u h => by obtain ⟨h1, h2, -⟩ := h; omega) (fun n ih_5 u hI H locs hP hD hS ls hl => ?_) (N0 + 1) (0, f) (by show 0 ≤ N0 ∧ N0 < 0 + (N0 + 1) ∧ ∀ j, j < 0 → f j = v; exact ⟨by omega, by omega, fun j h => absurd h (Nat.not_lt_zero j)⟩) hP hD hS (lv_sub hl [0, 1, 2, 3] rfl)
  obtain ⟨k, g⟩ := u
  have hP : va_P D vwCl [(a, .inl (cI, N0, .inl g))] H := hP
  have hD : va_D A [(a, .inl (cI, N0, .inl g))] := hD
  have hl : lv_has ls 4 [(3, .int (nI N0)), (2, .int (nI k)), (0, .ref a), (1, .int v)] := hl
  have hI : k ≤ N0 ∧ N0 < k + (n + 1) ∧ ∀ j, j < k → g j = v := hI
  refine lv_iload_n hx hb dJ7_fill_53178_5 rfl (lv_at hl 1 rfl) ?_
  refine lv_iload_n hx hb dJ7_fill_53178_6 rfl (lv_at hl 0 rfl) ?_
  refine lv_icmp_ge (tgt := 20) hx hb dJ7_fill_53178_7 (by decide) (fun c_7 => ?_) (fun c_7 => ?_)
  · obtain ⟨h1, h2, h3⟩ := hI
    have hkk : k = N0 := by
      rcases Nat.lt_or_ge k N0 with q | q
      · exact absurd c_7 (nI_ge q (by omega))
      · omega
    subst hkk
    have hD : va_D A [(a, .inl (cI, k, .inl (fun _ => v)))] := hD.set (p := 0) rfl
    have hP : va_P D vwCl [(a, .inl (cI, k, .inl (fun _ => v)))] H := kt_P_arr hP 0 rfl (fun j hj => h3 j hj)
    exact kt_rv () hx hb hr hlk hS dJ7_fill_53178_20 hP hD (by first | rfl | trivial | assumption | (simp_all; done) | grind)
  · have hk : k < N0 := by
      rcases Nat.lt_or_ge k N0 with q | q
      · exact q
      · exact absurd (nI_le q (by omega)) c_7
    refine lv_aload_n hx hb dJ7_fill_53178_10 rfl (lv_at hl 2 rfl) ?_
    refine lv_iload_n hx hb dJ7_fill_53178_11 rfl (lv_at hl 1 rfl) ?_
    refine lv_iload_n hx hb dJ7_fill_53178_12 rfl (lv_at hl 3 rfl) ?_
    have hi_1 : vp_in (nI k) N0 := by exact vp_in_nI hk (by omega)
    refine va_iast hx hb hK hP hD hS 0 0 rfl rfl hi_1 dJ7_fill_53178_13 (fun H locs hP hD hS => ?_)
    have hP : va_P D vwCl [(a, .inl (cI, N0, .inl (upd g (nI k).toNatClampNeg v)))] H := hP
    have hD : va_D A [(a, .inl (cI, N0, .inl (upd g (nI k).toNatClampNeg v)))] := hD
    refine lv_iinc (v := nI (k + 1)) (lv' := [(2, .int (nI (k + 1))), (3, .int (nI N0)), (0, .ref a), (1, .int v)]) hx hb dJ7_fill_53178_14 hl (k := 1) rfl (nI_1 _) (by decide) rfl (fun ls hl => ?_)
    refine lv_goto (tgt := 5) hx hb dJ7_fill_53178_17 (by decide) ?_
    exact ih_5 ((k + 1), (upd g (nI k).toNatClampNeg v)) (by show (k + 1) ≤ N0 ∧ N0 < (k + 1) + n ∧ ∀ j, j < (k + 1) → (upd g (nI k).toNatClampNeg v) j = v; obtain ⟨h1, h2, h3⟩ := hI; refine ⟨by omega, by omega, fun j hj => ?_⟩; rw [nI_clamp (by omega)]; exact if hjk : j = k then (by rw [hjk, pk_us]) else (by rw [pk_un hjk]; exact h3 j (by omega))) H _ hP hD hS ls (lv_sub hl [1, 0, 2, 3] rfl)
