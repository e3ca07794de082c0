theorem iw_X2_add_X2 : ∀ w ∈ wsX20, w ∈ wsX2_add := fun _ h => kt_wp_X2_add__X20 h
theorem iw_X7_forget_X7 : ∀ w ∈ wsX70, w ∈ wsX7_forget := fun _ h => kt_wp_X7_forget__X70 h
set_option maxHeartbeats 4000000 in
set_option maxRecDepth 100000 in
theorem c_X7_forget (l : Launch) (D : va_G) (cI cZ cB : ClassId) (sz : Nat) (so : Nat) (ru : Nat) (tr : Nat) (lk : Nat) (vp : Nat) (vd : Nat) (vt : Nat) (vg : Nat) (vw : Nat) (ve : Nat) (vo : Nat) (vq : Nat) (qd : Int32) (pp : Int32) (ct : Int32) (sv : Int32) : kt_Mv l yX7_forget wsX7_forget { frames := 0, cells := 0, slots := 0, locals := 0 } D (kt_ty cI cZ cB) [.ref so] sz [(so, .inr (7, [.ref ru, .ref tr, .ref lk, .ref vp, .ref vd, .ref vt, .ref vg, .ref vw, .ref ve, .ref vo, .ref vq, .int qd, .int pp, .int ct, .int sv]))] (fun (u : Unit) => True) (fun (u : Unit) => [(so, .inr (7, [.ref ru, .ref tr, .ref lk, .ref vp, .ref vd, .ref vt, .ref vg, .ref vw, .ref ve, .ref vo, .ref vq, .int qd, .int pp, .int ct, .int 0]))]) 0 0 := by
  refine kt_Mv.of (cc := cX7_forget) (maxL := 1) (ret := none) (by decide) rfl (Nat.le_of_ble_eq_true rfl) ?_
  intro p e s m below meth c A ls H hAt hP hD hS hl
  obtain ⟨hx, hb, hr, hml, hown, hts, hN, hK, hlk, hnm, hA⟩ := hAt
  have hl : lv_has ls 1 [(0, .ref so)] := hl
  have hown : s.vm.findClass RX7 = some m.cls := hown
  refine lv_aload_n hx hb dX7_forget_0 rfl (lv_at hl 0 rfl) ?_
  refine lv_iconst (v := 0) hx hb dX7_forget_1 (by decide) ?_
  refine va_put (D := D) (ci := 7) (v := .int 0) (ty := .boolean) (C := RX7) (T := TX7) (N := 15) hx hb hts iw_X7_forget_X7 tyX7 tyX7_ok nmX7 hown hK hP hD hS 0 rfl rfl 14 (by decide) (hts (.fieldLink RX7 54 "KingTable$Solver" "solved" "Z") (List.mem_cons_of_mem _ (List.mem_append_left _ (List.Mem.head _)))) (fun _ h9 => h9) rfl (by decide +kernel) rfl rfl (Nat.le_of_ble_eq_true rfl) dX7_forget_2 (fun H locs hP hD hS => ?_)
  have hP : va_P D vwCl [(so, .inr (7, [.ref ru, .ref tr, .ref lk, .ref vp, .ref vd, .ref vt, .ref vg, .ref vw, .ref ve, .ref vo, .ref vq, .int qd, .int pp, .int ct, .int 0]))] H := hP
  have hD : va_D A [(so, .inr (7, [.ref ru, .ref tr, .ref lk, .ref vp, .ref vd, .ref vt, .ref vg, .ref vw, .ref ve, .ref vo, .ref vq, .int qd, .int pp, .int ct, .int 0]))] := hD
  exact kt_rv () hx hb hr hlk hS dX7_forget_5 hP hD (by show True; trivial)

/-- the number of places: base B, k pieces more; none where the stands are too many -/
def kt_me (B : Int) : Nat → Int → Option Int
  | 0, n => some n
  | k + 1, n => if 10000 < 2 * (n * B) then none else kt_me B k (n * B)
theorem kt_me_s {B v : Int} {m : Nat} (h : ¬ 10000 < 2 * (v * B)) : kt_me B (m + 1) v = kt_me B m (v * B) := if_neg h
theorem kt_me_n {B v : Int} {m : Nat} (h : 10000 < 2 * (v * B)) : kt_me B (m + 1) v = none := if_pos h

theorem iw_X7_measure_X7 : ∀ w ∈ wsX70, w ∈ wsX7_measure := fun _ h => kt_wp_X7_measure__X70 h
theorem iw_X7_measure_X6 : ∀ w ∈ wsX60, w ∈ wsX7_measure := fun _ h => kt_wp_X7_measure__X60 h
theorem iw_X7_measure_X0 : ∀ w ∈ wsX00, w ∈ wsX7_measure := fun _ h => kt_wp_X7_measure__X00 h
theorem iw_X7_nextDigits_X7 : ∀ w ∈ wsX70, w ∈ wsX7_nextDigits := fun _ h => kt_wp_X7_nextDigits__X70 h
theorem iw_X7_nextDigits_X6 : ∀ w ∈ wsX60, w ∈ wsX7_nextDigits := fun _ h => kt_wp_X7_nextDigits__X60 h
theorem iw_X7_nextDigits_X0 : ∀ w ∈ wsX00, w ∈ wsX7_nextDigits := fun _ h => kt_wp_X7_nextDigits__X00 h
theorem iw_X7_setUp_X7 : ∀ w ∈ wsX70, w ∈ wsX7_setUp := fun _ h => kt_wp_X7_setUp__X70 h
theorem iw_X7_setUp_X6 : ∀ w ∈ wsX60, w ∈ wsX7_setUp := fun _ h => kt_wp_X7_setUp__X60 h
theorem iw_X7_setUp_X0 : ∀ w ∈ wsX00, w ∈ wsX7_setUp := fun _ h => kt_wp_X7_setUp__X00 h