/-- the new length of a row that must hold 'need': twice what it had, up to 'most' -/
def kt_rf (need had most : Int) : Int := if need < (if most < 2 * had then most else 2 * had) then (if most < 2 * had then most else 2 * had) else need
theorem kt_rf_b (need had most : Int) : need ≤ kt_rf need had most ∧ (kt_rf need had most = need ∨ kt_rf need had most = most ∨ kt_rf need had most = 2 * had) ∧ (need ≤ most → kt_rf need had most ≤ most) := by
  unfold kt_rf
  split <;> split <;> omega
theorem kt_mm {x y : Int32} : (if x < y then y else x).toInt = if x.toInt < y.toInt then y.toInt else x.toInt := by
  by_cases h : x < y
  · rw [if_pos h, if_pos ((kt_lt x y).mp h)]
  · rw [if_neg h, if_neg (fun h2 => h ((kt_lt x y).mpr h2))]
theorem kt_mn {x y : Int32} : (if y < x then y else x).toInt = if y.toInt < x.toInt then y.toInt else x.toInt := by
  by_cases h : y < x
  · rw [if_pos h, if_pos ((kt_lt y x).mp h)]
  · rw [if_neg h, if_neg (fun h2 => h ((kt_lt y x).mpr h2))]

set_option maxHeartbeats 4000000 in
set_option maxRecDepth 100000 in
theorem c_X2_roomFor (l : Launch) (D : va_G) (cI cZ cB : ClassId) (sz : Nat) (p0 : Int32) (p1 : Int32) (p2 : Int32) (hb0 : 0 ≤ p1.toInt ∧ p1.toInt ≤ 1000000) : kt_Mi l yX2_roomFor wsX2_roomFor { frames := 1, cells := 0, slots := 0, locals := 14 } D (kt_ty cI cZ cB) [.int p0, .int p1, .int p2] sz [] (fun (r : Int32) (u : Unit) => r.toInt = kt_rf p0.toInt p1.toInt p2.toInt) (fun (u : Unit) => []) 0 0 := by
  refine kt_Mi.of (cc := cX2_roomFor) (maxL := 3) (ret := some .int) (by decide) rfl (Nat.le_of_ble_eq_true rfl) ?_
  intro p e s m below meth c A ls H hAt hP hD hS hl
  obtain ⟨hx, hb, hr, hml, hown, hts, hN, hK, hlk, hnm, hA⟩ := hAt
  have hl : lv_has ls 3 [(0, .int p0), (1, .int p1), (2, .int p2)] := hl
  have hown : s.vm.findClass RX2 = some m.cls := hown
  refine lv_iload_n hx hb dX2_roomFor_0 rfl (lv_at hl 0 rfl) ?_
  refine lv_iconst (v := 2) hx hb dX2_roomFor_1 (by decide) ?_
  refine lv_iload_n hx hb dX2_roomFor_2 rfl (lv_at hl 1 rfl) ?_
  refine lv_imul hx hb dX2_roomFor_3 ?_
  refine lv_topi (fun t_3 et_3 => ?_)
  obtain ⟨k_3, hk_3, hm_3, hM_3⟩ := kt_mulk (C := 2) (et_3.trans (Int32.mul_comm _ _)) (by decide)
  try simp only [kt_c0, kt_c1, kt_c2, kt_c3, kt_c4, kt_c8, kt_c9, kt_cm1, kt_c81, kt_c40, kt_c7, kt_c5, kt_c6, kt_c512, kt_c10, kt_c10000] at hk_3
  refine lv_iload_n hx hb dX2_roomFor_4 rfl (lv_at hl 2 rfl) ?_
  refine va_mmin hx hb (by rw [hml]; exact hl.1.symm) hown (hts (.methodLink RX2 36 Lib.Math.min.name) (List.mem_cons_of_mem _ (List.Mem.head _))) (hts (.static Lib.Math.min.name) (List.mem_cons_of_mem _ (List.mem_cons_of_mem _ (List.Mem.head _)))) (hts (.initialized "java/lang/Math") (List.mem_cons_of_mem _ (List.mem_cons_of_mem _ (List.mem_cons_of_mem _ (List.Mem.head _))))) (hts (.code Lib.Math.min.name Lib.Math.min.code 2 (some .int)) (List.mem_cons_of_mem _ (List.mem_cons_of_mem _ (List.mem_cons_of_mem _ (List.mem_cons_of_mem _ (List.Mem.head _)))))) (Nat.le_of_ble_eq_true rfl) (Nat.le_of_ble_eq_true rfl) (Nat.le_of_ble_eq_true rfl) (Nat.le_of_ble_eq_true rfl) dX2_roomFor_5 ?_
  refine va_mmax hx hb (by rw [hml]; exact hl.1.symm) hown (hts (.methodLink RX2 42 Lib.Math.max.name) (List.mem_cons_of_mem _ (List.mem_cons_of_mem _ (List.mem_cons_of_mem _ (List.mem_cons_of_mem _ (List.mem_cons_of_mem _ (List.Mem.head _))))))) (hts (.static Lib.Math.max.name) (List.mem_cons_of_mem _ (List.mem_cons_of_mem _ (List.mem_cons_of_mem _ (List.mem_cons_of_mem _ (List.mem_cons_of_mem _ (List.mem_cons_of_mem _ (List.Mem.head _)))))))) (hts (.initialized "java/lang/Math") (List.mem_cons_of_mem _ (List.mem_cons_of_mem _ (List.mem_cons_of_mem _ (List.Mem.head _))))) (hts (.code Lib.Math.max.name Lib.Math.max.code 2 (some .int)) (List.mem_cons_of_mem _ (List.mem_cons_of_mem _ (List.mem_cons_of_mem _ (List.mem_cons_of_mem _ (List.mem_cons_of_mem _ (List.mem_cons_of_mem _ (List.mem_cons_of_mem _ (List.Mem.head _))))))))) (Nat.le_of_ble_eq_true rfl) (Nat.le_of_ble_eq_true rfl) (Nat.le_of_ble_eq_true rfl) (Nat.le_of_ble_eq_true rfl) dX2_roomFor_8 ?_
  exact kt_ri () hx hb hr hlk hS dX2_roomFor_11 hP hD (by show (if p0 < (if p2 < t_3 then p2 else t_3) then if p2 < t_3 then p2 else t_3 else p0).toInt = kt_rf p0.toInt p1.toInt p2.toInt; rw [kt_mm, kt_mn, show t_3.toInt = 2 * p1.toInt by omega]; rfl)
