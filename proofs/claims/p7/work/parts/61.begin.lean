/-! ===== a board begins, exactly ===== -/
def kt_grd (s : Int32) : Int32 := if s = 5 ∨ s = 7 then 5 else if s = 6 then 6 else 0
/-- what a ground is called -/
def kt_gt (g : Int32) : Int := if g = 5 then 1 else if g = 6 then 2 else 0
theorem kt_grd_tp (s : Int32) : (kt_tp s).toInt = kt_gt (kt_grd s) ∧ (kt_tp s = 2 ↔ kt_grd s = 6) ∧ (kt_tp s = 0 ↔ kt_grd s = 0) := by
  unfold kt_tp kt_grd
  split
  · decide
  · split
    · decide
    · decide
theorem kt_iKP {s : Int32} (h : kt_iK s = true) : kt_iP s = true := by
  unfold kt_iK at h
  have h1 : kt_kd s = 2 := of_decide_eq_true h
  unfold kt_iP
  rw [h1]
  decide
theorem kt_ct_hit {P : Int32 → Bool} {f : Nat → Int32} {q : Nat} : ∀ {n : Nat}, q < kt_ct P f n → ∃ j, j < n ∧ P (f j) = true ∧ kt_ct P f j = q
  | 0, h => absurd h (Nat.not_lt_zero q)
  | n + 1, h => by
    by_cases hp : P (f n) = true
    · rw [kt_ct_yes hp] at h
      by_cases e : q = kt_ct P f n
      · exact ⟨n, Nat.lt_succ_self n, hp, e.symm⟩
      · obtain ⟨j, h1, h2, h3⟩ := kt_ct_hit (n := n) (show q < kt_ct P f n by omega)
        exact ⟨j, by omega, h2, h3⟩
    · rw [kt_ct_no hp] at h
      obtain ⟨j, h1, h2, h3⟩ := kt_ct_hit (n := n) h
      exact ⟨j, by omega, h2, h3⟩
theorem kt_ct_lt {P : Int32 → Bool} {f : Nat → Int32} {j n : Nat} (h : j < n) (hp : P (f j) = true) : kt_ct P f j < kt_ct P f n := by
  have h1 := kt_ct_mono P f (m := j + 1) (n := n) h
  rw [kt_ct_yes hp] at h1
  omega
/-- the pieces of the first n fields stand in their order -/
def kt_BG (fg : Nat → Int32) (n : Nat) (A K O : Nat → Int32) (kx : Int32) : Prop := ∀ j, j < n → (kt_iP (fg j) = true → A (kt_ct kt_iP fg j) = nI j ∧ K (kt_ct kt_iP fg j) = kt_kd (fg j) ∧ O j = nI (kt_ct kt_iP fg j)) ∧ (¬ kt_iP (fg j) = true → O j = -1) ∧ (kt_iK (fg j) = true → kx = nI (kt_ct kt_iP fg j))
theorem kt_BG.no {fg A K O : Nat → Int32} {n : Nat} {kx : Int32} (h : kt_BG fg n A K O kx) (hp : ¬ kt_iP (fg n) = true) (O2 : Nat → Int32) (h1 : ∀ j, j < n → O2 j = O j) (h2 : O2 n = -1) : kt_BG fg (n + 1) A K O2 kx := by
  intro j hj
  by_cases e : j = n
  · subst e
    exact ⟨fun h3 => absurd h3 hp, fun _ => h2, fun h3 => absurd (kt_iKP h3) hp⟩
  · obtain ⟨a, b, c⟩ := h j (by omega)
    rw [h1 j (by omega)]
    exact ⟨a, b, c⟩
theorem kt_BG.yes {fg A K O : Nat → Int32} {n : Nat} {kx kx2 : Int32} (h : kt_BG fg n A K O kx) (hp : kt_iP (fg n) = true) (A2 K2 O2 : Nat → Int32) (hA : ∀ q, ¬ q = kt_ct kt_iP fg n → A2 q = A q) (hA2 : A2 (kt_ct kt_iP fg n) = nI n) (hK : ∀ q, ¬ q = kt_ct kt_iP fg n → K2 q = K q) (hK2 : K2 (kt_ct kt_iP fg n) = kt_kd (fg n)) (hO : ∀ j, ¬ j = n → O2 j = O j) (hO2 : O2 n = nI (kt_ct kt_iP fg n))
    (hk : (kx2 = kx ∧ ¬ kt_iK (fg n) = true) ∨ (kx2 = nI (kt_ct kt_iP fg n) ∧ kt_ct kt_iK fg (n + 1) ≤ 1 ∧ kt_iK (fg n) = true)) : kt_BG fg (n + 1) A2 K2 O2 kx2 := by
  intro j hj
  by_cases e : j = n
  · subst e
    refine ⟨fun _ => ⟨hA2, hK2, hO2⟩, fun h3 => absurd hp h3, fun h3 => ?_⟩
    rcases hk with ⟨-, h4⟩ | ⟨h4, -, -⟩
    · exact absurd h3 h4
    · exact h4
  · obtain ⟨a, b, c⟩ := h j (by omega)
    refine ⟨fun h3 => ?_, fun h3 => by rw [hO j e]; exact b h3, fun h3 => ?_⟩
    · have hlt := kt_ct_lt (n := n) (by omega) h3
      obtain ⟨a1, a2, a3⟩ := a h3
      rw [hA _ (by omega), hK _ (by omega), hO j e]
      exact ⟨a1, a2, a3⟩
    · rcases hk with ⟨h4, -⟩ | ⟨-, h4, h5⟩
      · rw [h4]; exact c h3
      · have h6 := kt_ct_lt (n := n) (show j < n by omega) h3
        rw [kt_ct_yes h5] at h4
        omega
theorem kt_BG.eq {fg A K O A' K' O' : Nat → Int32} {n : Nat} {kx kx' : Int32} (h : kt_BG fg n A K O kx) (h' : kt_BG fg n A' K' O' kx') : (∀ q, q < kt_ct kt_iP fg n → A q = A' q ∧ K q = K' q) ∧ (∀ j, j < n → O j = O' j) ∧ (1 ≤ kt_ct kt_iK fg n → kx = kx') := by
  refine ⟨fun q hq => ?_, fun j hj => ?_, fun hk => ?_⟩
  · obtain ⟨j, h1, h2, h3⟩ := kt_ct_hit hq
    subst h3
    exact ⟨((h j h1).1 h2).1.trans ((h' j h1).1 h2).1.symm, ((h j h1).1 h2).2.1.trans ((h' j h1).1 h2).2.1.symm⟩
  · by_cases hp : kt_iP (fg j) = true
    · exact ((h j hj).1 hp).2.2.trans ((h' j hj).1 hp).2.2.symm
    · exact ((h j hj).2.1 hp).trans ((h' j hj).2.1 hp).symm
  · obtain ⟨j, h1, h2, -⟩ := kt_ct_hit (q := 0) (show 0 < kt_ct kt_iK fg n from hk)
    exact ((h j h1).2.2 h2).trans ((h' j h1).2.2 h2).symm
/-- the king is the one piece of his kind -/
theorem kt_BG.king {fg A K O : Nat → Int32} {n : Nat} {kx : Int32} (h : kt_BG fg n A K O kx) (hk : kt_ct kt_iK fg n = 1) (hn : n ≤ 81) {q : Nat} (hq : q < kt_ct kt_iP fg n) : K q = 2 ↔ kx = nI q := by
  obtain ⟨j, h1, h2, h3⟩ := kt_ct_hit hq
  subst h3
  constructor
  · intro e
    rw [((h j h1).1 h2).2.1] at e
    exact (h j h1).2.2 (decide_eq_true e)
  · intro e
    obtain ⟨i, i1, i2, -⟩ := kt_ct_hit (q := 0) (show 0 < kt_ct kt_iK fg n by omega)
    have e2 := (h i i1).2.2 i2
    rw [e] at e2
    have e3 := kt_nIinj (by have := kt_ct_le kt_iP fg j; omega) (by have := kt_ct_le kt_iP fg i; omega) e2
    have hij : j = i := by
      rcases Nat.lt_trichotomy j i with c | c | c
      · have := kt_ct_lt (n := i) c h2; omega
      · exact c
      · have := kt_ct_lt (n := j) c (kt_iKP i2); omega
    subst hij
    rw [((h j h1).1 h2).2.1]
    exact of_decide_eq_true i2
theorem kt_BG.cong {fg gg A K O : Nat → Int32} {n m : Nat} {kx : Int32} (h : kt_BG gg m A K O kx) (hn : n ≤ m) (he : ∀ j, j < n → gg j = fg j) : kt_BG fg n A K O kx := by
  intro j hj
  have hc : kt_ct kt_iP gg j = kt_ct kt_iP fg j := kt_ct_cong (fun i hi => by rw [he i (by omega)])
  have h0 := h j (by omega)
  rw [he j hj, hc] at h0
  exact h0
/-- a stand's holders behind a placing -/
def kt_off (h : Nat → Int32) (o : Int32) : Nat → Int32 := if 0 ≤ o.toInt ∧ o.toInt < 81 then upd h o.toNatClampNeg (-1) else h
def kt_plc (h : Nat → Int32) (o p f : Int32) : Nat → Int32 := if 0 ≤ f.toInt ∧ f.toInt < 81 then upd (kt_off h o) f.toNatClampNeg p else kt_off h o
/-- sides and takers by the kinds -/
def kt_SD (fk fs ft : Nat → Int32) (lt : Int32) (n : Nat) : Prop := ∀ q, q < n → (fs q).toInt = kt_side (fk q) ∧ kt_B (ft q) (kt_tks lt (fk q)) ∧ 1 ≤ (fk q).toInt
/-- the class's pieces as they are set up from the first n fields -/
def kt_SU (fg : Nat → Int32) (n : Nat) (ff fh fk fs ft : Nat → Int32) (kg lt : Int32) : Prop := kt_BG fg n ff fk fh kg ∧ kt_SD fk fs ft lt (kt_ct kt_iP fg n) ∧ (∀ j, n ≤ j → j < 81 → fh j = -1) ∧ ∀ q, kt_ct kt_iP fg n ≤ q → q < 40 → ff q = -1
theorem kt_SU.init (fg fk fs ft : Nat → Int32) (kg lt : Int32) : kt_SU fg 0 (fun _ => -1) (fun _ => -1) fk fs ft kg lt := ⟨fun j hj => absurd hj (Nat.not_lt_zero j), fun q hq => absurd hq (Nat.not_lt_zero q), fun _ _ _ => rfl, fun _ _ _ => rfl⟩
theorem kt_SU.no {fg ff fh fk fs ft : Nat → Int32} {n : Nat} {kg lt : Int32} (h : kt_SU fg n ff fh fk fs ft kg lt) (hn : n < 81) (hp : ¬ kt_iP (fg n) = true) : kt_SU fg (n + 1) ff fh fk fs ft kg lt := by
  obtain ⟨h1, h2, h3, h4⟩ := h
  refine ⟨h1.no hp _ (fun _ _ => rfl) (h3 n (Nat.le_refl n) hn), ?_, fun j hj => h3 j (by omega), ?_⟩
  · rw [kt_ct_no hp]; exact h2
  · rw [kt_ct_no hp]; exact h4
theorem kt_SU.yes {fg ff fh fk fs ft fs2 ft2 : Nat → Int32} {n : Nat} {kg kg2 lt : Int32} (h : kt_SU fg n ff fh fk fs ft kg lt) (hn : n < 81) (hp : kt_iP (fg n) = true) (hc : kt_ct kt_iP fg n < 40) (hK1 : kt_ct kt_iK fg (n + 1) ≤ 1) (hs1 : ∀ q, ¬ q = kt_ct kt_iP fg n → fs2 q = fs q ∧ ft2 q = ft q) (hs2 : (fs2 (kt_ct kt_iP fg n)).toInt = kt_side (kt_kd (fg n))) (hs3 : kt_B (ft2 (kt_ct kt_iP fg n)) (kt_tks lt (kt_kd (fg n))))
    (hk : kg2 = if kt_kd (fg n) = 2 then nI (kt_ct kt_iP fg n) else kg) : kt_SU fg (n + 1) (upd ff (kt_ct kt_iP fg n) (nI n)) (kt_plc fh (ff (kt_ct kt_iP fg n)) (nI (kt_ct kt_iP fg n)) (nI n)) (upd fk (kt_ct kt_iP fg n) (kt_kd (fg n))) fs2 ft2 kg2 lt := by
  obtain ⟨h1, h2, h3, h4⟩ := h
  have e0 : kt_off fh (ff (kt_ct kt_iP fg n)) = fh := by
    unfold kt_off
    rw [h4 _ (Nat.le_refl _) hc, if_neg (by decide)]
  have en := kt_nI (n := n) (by omega)
  have e1 : kt_plc fh (ff (kt_ct kt_iP fg n)) (nI (kt_ct kt_iP fg n)) (nI n) = upd fh n (nI (kt_ct kt_iP fg n)) := by
    unfold kt_plc
    rw [if_pos (by omega), e0, nI_clamp (by omega)]
  have hk1 : 1 ≤ (kt_kd (fg n)).toInt := by
    have h5 : ¬ kt_kd (fg n) = 0 := of_decide_eq_true hp
    have h6 := kt_kd_r (fg n)
    have h7 : ¬ (kt_kd (fg n)).toInt = 0 := fun e => h5 ((kt_eq _ _).mpr (e.trans kt_c0.symm))
    omega
  rw [e1]
  refine ⟨h1.yes hp _ _ _ (fun q hq => pk_un hq) pk_us (fun q hq => pk_un hq) pk_us (fun j hj => pk_un hj) pk_us ?_, ?_, fun j hj hj2 => ?_, ?_⟩
  · by_cases e : kt_kd (fg n) = 2
    · rw [if_pos e] at hk
      exact Or.inr ⟨hk, hK1, decide_eq_true e⟩
    · rw [if_neg e] at hk
      exact Or.inl ⟨hk, fun h5 => e (of_decide_eq_true h5)⟩
  · rw [kt_ct_yes hp]
    intro q hq
    by_cases e : q = kt_ct kt_iP fg n
    · subst e
      rw [pk_us]
      exact ⟨hs2, hs3, hk1⟩
    · rw [pk_un e, (hs1 q e).1, (hs1 q e).2]
      exact h2 q (by omega)
  · rw [pk_un (by omega)]
    exact h3 j (by omega) hj2
  · rw [kt_ct_yes hp]
    intro q hq hq2
    rw [pk_un (by omega)]
    exact h4 q (by omega) hq2
/-- the edge, as the reference has it -/
theorem kt_edge_of {f w L : Int} (hw : 2 ≤ w ∧ w ≤ 9) (hf : 0 ≤ f ∧ f < L * w) : (f / w = 0 ↔ f < w) ∧ (f / w = L - 1 ↔ L * w - w ≤ f) := by
  have hm : 0 ≤ f % w ∧ f % w < w := ⟨Int.emod_nonneg f (by omega), Int.emod_lt_of_pos f (by omega)⟩
  have he : f / w * w + f % w = f := by rw [Int.mul_comm]; exact Int.mul_ediv_add_emod f w
  refine ⟨⟨fun h => ?_, fun h => Int.ediv_eq_zero_of_lt hf.1 h⟩, ⟨fun h => ?_, fun h => ?_⟩⟩
  · rw [h, Int.zero_mul] at he; omega
  · rw [h, Int.sub_mul, Int.one_mul] at he; omega
  · have h1 : L - 1 ≤ f / w := Int.le_ediv_of_mul_le (by omega) (by rw [Int.sub_mul, Int.one_mul]; exact h)
    have h2 : f / w < L := Int.ediv_lt_of_lt_mul (by omega) hf.2
    omega
/-- a goal, by the reference's ground -/
def kt_goR (goal : Int32) (w L : Int) (g : Int32) (f : Int) : Prop := (goal = 0 ∧ g = 6) ∨ (¬ goal = 0 ∧ kt_edge f w L)
theorem kt_goR_iff {goal : Int32} {w L f : Int} {s : Int32} : kt_gol goal w L s f ↔ kt_goR goal w L (kt_grd s) f := by
  unfold kt_gol kt_goR
  rw [(kt_grd_tp s).2.1]
/-- a field's answer -/
def kt_fvl (t : Int) (g : Prop) (r : Int) : Prop := (g ∧ r = t + 4) ∨ (¬ g ∧ r = t)
theorem kt_B.nz {r : Int32} {P : Prop} (h : kt_B r P) : ¬ r = 0 ↔ P := by
  rcases h with ⟨h1, h2⟩ | ⟨h1, h2⟩
  · exact ⟨fun _ => h2, fun _ => by rw [h1]; decide⟩
  · exact ⟨fun h3 => absurd h1 h3, fun h3 => absurd h3 h2⟩
set_option maxHeartbeats 4000000 in
set_option maxRecDepth 100000 in
theorem c_X8_placeE (l : Launch) (D : va_G) (cI cZ cB : ClassId) (sz : Nat) (nw : Nat) (sf : Nat) (sh : Nat) (tu : Int32) (ff : Nat → Int32) (fh : Nat → Int32) (p1 : Int32) (p2 : Int32) (hff : kt_r ff 40 (-1) 80) (hfh : kt_r fh 81 (-1) 39) (hp1 : 0 ≤ p1.toInt ∧ p1.toInt ≤ 39) (hp2 : -1 ≤ p2.toInt ∧ p2.toInt ≤ 80) : kt_Mv l yX8_place wsX8_place { frames := 0, cells := 0, slots := 0, locals := 0 } D (kt_ty cI cZ cB) [.ref nw, .int p1, .int p2] sz [(nw, .inr (8, [.ref sf, .ref sh, .int tu])), (sf, .inl (cI, 40, .inl ff)), (sh, .inl (cI, 81, .inl fh))] (fun (u : (Nat → Int32) × (Nat → Int32)) => (kt_r u.1 40 (-1) 80 ∧ kt_r u.2 81 (-1) 39) ∧ u.1 = upd ff p1.toNatClampNeg p2 ∧ u.2 = kt_plc fh (ff p1.toNatClampNeg) p1 p2) (fun (u : (Nat → Int32) × (Nat → Int32)) => [(nw, .inr (8, [.ref sf, .ref sh, .int tu])), (sf, .inl (cI, 40, .inl u.1)), (sh, .inl (cI, 81, .inl u.2))]) 0 0 := by
  refine kt_Mv.of (cc := cX8_place) (maxL := 4) (ret := none) (by decide) rfl (Nat.le_of_ble_eq_true rfl) ?_
  intro p e s m below meth c A ls H hAt hP hD hS hl
  obtain ⟨hx, hb, hr, hml, hown, hts, hN, hK, hlk, hnm, hA⟩ := hAt
  have hl : lv_has ls 4 [(0, .ref nw), (1, .int p1), (2, .int p2)] := hl
  have hown : s.vm.findClass RX8 = some m.cls := hown
  refine lv_iload_n hx hb dX8_place_0 rfl (lv_at hl 1 rfl) ?_
  refine lv_if_lt (tgt := 10) hx hb dX8_place_1 (by decide) (fun c_1 => ?_) (fun c_1 => ?_)
  · have d_1 := c_1
    simp only [kt_lt, kt_le, kt_eq, kt_c0, kt_c1, kt_c2, kt_c3, kt_c4, kt_c8, kt_c9, kt_cm1, kt_c81, kt_c40, kt_c7, kt_c5, kt_c6, kt_c512, kt_c10, kt_c10000] at d_1
    exact kt_rv (ff, fh) hx hb hr hlk hS dX8_place_10 hP hD (by show (kt_r ff 40 (-1) 80 ∧ kt_r fh 81 (-1) 39) ∧ ff = upd ff p1.toNatClampNeg p2 ∧ fh = kt_plc fh (ff p1.toNatClampNeg) p1 p2; first | (exfalso; omega) | exact ⟨⟨hff, hfh⟩, rfl, by unfold kt_plc; rw [if_pos (by omega), hg]⟩ | exact ⟨⟨hff, hfh⟩, rfl, by unfold kt_plc; rw [if_neg (by omega), hg]⟩)
  · have d_1 := c_1
    simp only [kt_lt, kt_le, kt_eq, kt_c0, kt_c1, kt_c2, kt_c3, kt_c4, kt_c8, kt_c9, kt_cm1, kt_c81, kt_c40, kt_c7, kt_c5, kt_c6, kt_c512, kt_c10, kt_c10000] at d_1
    refine lv_iload_n hx hb dX8_place_4 rfl (lv_at hl 1 rfl) ?_
    refine lv_bipush (v := 40) hx hb dX8_place_5 (by decide) ?_
    refine lv_icmp_lt (tgt := 11) hx hb dX8_place_7 (by decide) (fun c_7 => ?_) (fun c_7 => ?_)
    · have d_7 := c_7
      simp only [kt_lt, kt_le, kt_eq, kt_c0, kt_c1, kt_c2, kt_c3, kt_c4, kt_c8, kt_c9, kt_cm1, kt_c81, kt_c40, kt_c7, kt_c5, kt_c6, kt_c512, kt_c10, kt_c10000] at d_7
      refine lv_aload_n hx hb dX8_place_11 rfl (lv_at hl 0 rfl) ?_
      refine va_get (D := D) (ci := 8) (C := RX8) (T := TX8) (N := 3) hx hb hts iw_X8_place_X8 hown hK hP 0 rfl rfl 0 (by decide) (hts (.fieldLink RX8 9 "KingTable$Stand" "fields" "[I") (List.mem_cons_of_mem _ (List.mem_append_left _ (List.Mem.head _)))) (fun _ h9 => h9) rfl dX8_place_12 ?_
      refine lv_iload_n hx hb dX8_place_15 rfl (lv_at hl 1 rfl) ?_
      have hi_1 : vp_in p1 40 := by exact kt_in (by omega) (by omega)
      refine va_iald hx hb hK hP 1 0 rfl rfl hi_1 dX8_place_16 ?_
      refine lv_topi (fun a_16 ea_16 => ?_)
      have ra_16 := hff.get hi_1
      rw [← ea_16] at ra_16
      refine lv_istore_n (lv' := [(3, .int a_16), (0, .ref nw), (1, .int p1), (2, .int p2)]) hx hb dX8_place_17 rfl hl (by decide) rfl (fun ls hl => ?_)
      refine lv_iload_n hx hb dX8_place_18 rfl (lv_at hl 0 rfl) ?_
      refine kt_join (σ := (Nat → Int32)) 35 4 (fun u => [(nw, .inr (8, [.ref sf, .ref sh, .int tu])), (sf, .inl (cI, 40, .inl ff)), (sh, .inl (cI, 81, .inl u))]) (fun u => [(3, .int a_16), (0, .ref nw), (1, .int p1), (2, .int p2)]) (fun u => []) (fun u => kt_r u 81 (-1) 39 ∧ u = kt_off fh (ff p1.toNatClampNeg)) (D := D) (A := A) (H0 := s.heap) (fun u hI H locs hP hD hS ls hl => ?_) (fun j_35 => ?_)
      · obtain ⟨g, rfl⟩ : ∃ z, z = u := ⟨_, rfl⟩
        have hP : va_P D vwCl [(nw, .inr (8, [.ref sf, .ref sh, .int tu])), (sf, .inl (cI, 40, .inl ff)), (sh, .inl (cI, 81, .inl g))] H := hP
        have hD : va_D A [(nw, .inr (8, [.ref sf, .ref sh, .int tu])), (sf, .inl (cI, 40, .inl ff)), (sh, .inl (cI, 81, .inl g))] := hD
        have hl : lv_has ls 4 [(3, .int a_16), (0, .ref nw), (1, .int p1), (2, .int p2)] := hl
        have hI : kt_r g 81 (-1) 39 ∧ g = kt_off fh (ff p1.toNatClampNeg) := hI
        obtain ⟨hfh, hg⟩ := hI
        refine lv_aload_n hx hb dX8_place_35 rfl (lv_at hl 1 rfl) ?_
        refine va_get (D := D) (ci := 8) (C := RX8) (T := TX8) (N := 3) hx hb hts iw_X8_place_X8 hown hK hP 0 rfl rfl 0 (by decide) (hts (.fieldLink RX8 9 "KingTable$Stand" "fields" "[I") (List.mem_cons_of_mem _ (List.mem_append_left _ (List.Mem.head _)))) (fun _ h9 => h9) rfl dX8_place_36 ?_
        refine lv_iload_n hx hb dX8_place_39 rfl (lv_at hl 2 rfl) ?_
        refine lv_iload_n hx hb dX8_place_40 rfl (lv_at hl 3 rfl) ?_
        have hi_2 : vp_in p1 40 := by exact kt_in (by omega) (by omega)
        refine va_iast hx hb hK hP hD hS 1 0 rfl rfl hi_2 dX8_place_41 (fun H locs hP hD hS => ?_)
        have hff : kt_r (upd ff p1.toNatClampNeg p2) 40 (-1) 80 := hff.upd (by omega) (by omega)
        have hP : va_P D vwCl [(nw, .inr (8, [.ref sf, .ref sh, .int tu])), (sf, .inl (cI, 40, .inl (upd ff p1.toNatClampNeg p2))), (sh, .inl (cI, 81, .inl g))] H := hP
        have hD : va_D A [(nw, .inr (8, [.ref sf, .ref sh, .int tu])), (sf, .inl (cI, 40, .inl (upd ff p1.toNatClampNeg p2))), (sh, .inl (cI, 81, .inl g))] := hD
        refine lv_iload_n hx hb dX8_place_42 rfl (lv_at hl 3 rfl) ?_
        refine lv_if_lt (tgt := 59) hx hb dX8_place_43 (by decide) (fun c_43 => ?_) (fun c_43 => ?_)
        · have d_43 := c_43
          simp only [kt_lt, kt_le, kt_eq, kt_c0, kt_c1, kt_c2, kt_c3, kt_c4, kt_c8, kt_c9, kt_cm1, kt_c81, kt_c40, kt_c7, kt_c5, kt_c6, kt_c512, kt_c10, kt_c10000] at d_43
          exact kt_rv (upd ff p1.toNatClampNeg p2, g) hx hb hr hlk hS dX8_place_59 hP hD (by show (kt_r (upd ff p1.toNatClampNeg p2) 40 (-1) 80 ∧ kt_r g 81 (-1) 39) ∧ (upd ff p1.toNatClampNeg p2) = upd ff p1.toNatClampNeg p2 ∧ g = kt_plc fh (ff p1.toNatClampNeg) p1 p2; first | (exfalso; omega) | exact ⟨⟨hff, hfh⟩, rfl, by unfold kt_plc; rw [if_pos (by omega), hg]⟩ | exact ⟨⟨hff, hfh⟩, rfl, by unfold kt_plc; rw [if_neg (by omega), hg]⟩)
        · have d_43 := c_43
          simp only [kt_lt, kt_le, kt_eq, kt_c0, kt_c1, kt_c2, kt_c3, kt_c4, kt_c8, kt_c9, kt_cm1, kt_c81, kt_c40, kt_c7, kt_c5, kt_c6, kt_c512, kt_c10, kt_c10000] at d_43
          refine lv_iload_n hx hb dX8_place_46 rfl (lv_at hl 3 rfl) ?_
          refine lv_bipush (v := 81) hx hb dX8_place_47 (by decide) ?_
          refine lv_icmp_ge (tgt := 59) hx hb dX8_place_49 (by decide) (fun c_49 => ?_) (fun c_49 => ?_)
          · have d_49 := c_49
            simp only [kt_lt, kt_le, kt_eq, kt_c0, kt_c1, kt_c2, kt_c3, kt_c4, kt_c8, kt_c9, kt_cm1, kt_c81, kt_c40, kt_c7, kt_c5, kt_c6, kt_c512, kt_c10, kt_c10000] at d_49
            exact kt_rv (upd ff p1.toNatClampNeg p2, g) hx hb hr hlk hS dX8_place_59 hP hD (by show (kt_r (upd ff p1.toNatClampNeg p2) 40 (-1) 80 ∧ kt_r g 81 (-1) 39) ∧ (upd ff p1.toNatClampNeg p2) = upd ff p1.toNatClampNeg p2 ∧ g = kt_plc fh (ff p1.toNatClampNeg) p1 p2; first | (exfalso; omega) | exact ⟨⟨hff, hfh⟩, rfl, by unfold kt_plc; rw [if_pos (by omega), hg]⟩ | exact ⟨⟨hff, hfh⟩, rfl, by unfold kt_plc; rw [if_neg (by omega), hg]⟩)
          · have d_49 := c_49
            simp only [kt_lt, kt_le, kt_eq, kt_c0, kt_c1, kt_c2, kt_c3, kt_c4, kt_c8, kt_c9, kt_cm1, kt_c81, kt_c40, kt_c7, kt_c5, kt_c6, kt_c512, kt_c10, kt_c10000] at d_49
            refine lv_aload_n hx hb dX8_place_52 rfl (lv_at hl 1 rfl) ?_
            refine va_get (D := D) (ci := 8) (C := RX8) (T := TX8) (N := 3) hx hb hts iw_X8_place_X8 hown hK hP 0 rfl rfl 1 (by decide) (hts (.fieldLink RX8 15 "KingTable$Stand" "holders" "[I") (List.mem_cons_of_mem _ (List.mem_append_left _ (List.mem_cons_of_mem _ (List.Mem.head _))))) (fun _ h9 => h9) rfl dX8_place_53 ?_
            refine lv_iload_n hx hb dX8_place_56 rfl (lv_at hl 3 rfl) ?_
            refine lv_iload_n hx hb dX8_place_57 rfl (lv_at hl 2 rfl) ?_
            have hi_3 : vp_in p2 81 := by exact kt_in (by omega) (by omega)
            refine va_iast hx hb hK hP hD hS 2 0 rfl rfl hi_3 dX8_place_58 (fun H locs hP hD hS => ?_)
            have hfh : kt_r (upd g p2.toNatClampNeg p1) 81 (-1) 39 := hfh.upd (by omega) (by omega)
            have hP : va_P D vwCl [(nw, .inr (8, [.ref sf, .ref sh, .int tu])), (sf, .inl (cI, 40, .inl (upd ff p1.toNatClampNeg p2))), (sh, .inl (cI, 81, .inl (upd g p2.toNatClampNeg p1)))] H := hP
            have hD : va_D A [(nw, .inr (8, [.ref sf, .ref sh, .int tu])), (sf, .inl (cI, 40, .inl (upd ff p1.toNatClampNeg p2))), (sh, .inl (cI, 81, .inl (upd g p2.toNatClampNeg p1)))] := hD
            exact kt_rv (upd ff p1.toNatClampNeg p2, upd g p2.toNatClampNeg p1) hx hb hr hlk hS dX8_place_59 hP hD (by show (kt_r (upd ff p1.toNatClampNeg p2) 40 (-1) 80 ∧ kt_r (upd g p2.toNatClampNeg p1) 81 (-1) 39) ∧ (upd ff p1.toNatClampNeg p2) = upd ff p1.toNatClampNeg p2 ∧ (upd g p2.toNatClampNeg p1) = kt_plc fh (ff p1.toNatClampNeg) p1 p2; first | (exfalso; omega) | exact ⟨⟨hff, hfh⟩, rfl, by unfold kt_plc; rw [if_pos (by omega), hg]⟩ | exact ⟨⟨hff, hfh⟩, rfl, by unfold kt_plc; rw [if_neg (by omega), hg]⟩)
      refine lv_if_lt (tgt := 35) hx hb dX8_place_19 (by decide) (fun c_19 => ?_) (fun c_19 => ?_)
      · have d_19 := c_19
        simp only [kt_lt, kt_le, kt_eq, kt_c0, kt_c1, kt_c2, kt_c3, kt_c4, kt_c8, kt_c9, kt_cm1, kt_c81, kt_c40, kt_c7, kt_c5, kt_c6, kt_c512, kt_c10, kt_c10000] at d_19
        exact j_35 fh (by show kt_r fh 81 (-1) 39 ∧ fh = kt_off fh (ff p1.toNatClampNeg); first | (exfalso; omega) | exact ⟨hfh, by unfold kt_off; rw [← ea_16, if_pos (by omega)]⟩ | exact ⟨hfh, by unfold kt_off; rw [← ea_16, if_neg (by omega)]⟩) H _ hP hD hS ls (lv_sub hl [0, 1, 2, 3] rfl)
      · have d_19 := c_19
        simp only [kt_lt, kt_le, kt_eq, kt_c0, kt_c1, kt_c2, kt_c3, kt_c4, kt_c8, kt_c9, kt_cm1, kt_c81, kt_c40, kt_c7, kt_c5, kt_c6, kt_c512, kt_c10, kt_c10000] at d_19
        refine lv_iload_n hx hb dX8_place_22 rfl (lv_at hl 0 rfl) ?_
        refine lv_bipush (v := 81) hx hb dX8_place_23 (by decide) ?_
        refine lv_icmp_ge (tgt := 35) hx hb dX8_place_25 (by decide) (fun c_25 => ?_) (fun c_25 => ?_)
        · have d_25 := c_25
          simp only [kt_lt, kt_le, kt_eq, kt_c0, kt_c1, kt_c2, kt_c3, kt_c4, kt_c8, kt_c9, kt_cm1, kt_c81, kt_c40, kt_c7, kt_c5, kt_c6, kt_c512, kt_c10, kt_c10000] at d_25
          exact j_35 fh (by show kt_r fh 81 (-1) 39 ∧ fh = kt_off fh (ff p1.toNatClampNeg); first | (exfalso; omega) | exact ⟨hfh, by unfold kt_off; rw [← ea_16, if_pos (by omega)]⟩ | exact ⟨hfh, by unfold kt_off; rw [← ea_16, if_neg (by omega)]⟩) H _ hP hD hS ls (lv_sub hl [0, 1, 2, 3] rfl)
        · have d_25 := c_25
          simp only [kt_lt, kt_le, kt_eq, kt_c0, kt_c1, kt_c2, kt_c3, kt_c4, kt_c8, kt_c9, kt_cm1, kt_c81, kt_c40, kt_c7, kt_c5, kt_c6, kt_c512, kt_c10, kt_c10000] at d_25
          refine lv_aload_n hx hb dX8_place_28 rfl (lv_at hl 1 rfl) ?_
          refine va_get (D := D) (ci := 8) (C := RX8) (T := TX8) (N := 3) hx hb hts iw_X8_place_X8 hown hK hP 0 rfl rfl 1 (by decide) (hts (.fieldLink RX8 15 "KingTable$Stand" "holders" "[I") (List.mem_cons_of_mem _ (List.mem_append_left _ (List.mem_cons_of_mem _ (List.Mem.head _))))) (fun _ h9 => h9) rfl dX8_place_29 ?_
          refine lv_iload_n hx hb dX8_place_32 rfl (lv_at hl 0 rfl) ?_
          refine lv_iconst (v := (-1)) hx hb dX8_place_33 (by decide) ?_
          have hi_4 : vp_in a_16 81 := by exact kt_in (by omega) (by omega)
          refine va_iast hx hb hK hP hD hS 2 0 rfl rfl hi_4 dX8_place_34 (fun H locs hP hD hS => ?_)
          have hfh : kt_r (upd fh a_16.toNatClampNeg (-1)) 81 (-1) 39 := hfh.upd (by decide) (by decide)
          have hP : va_P D vwCl [(nw, .inr (8, [.ref sf, .ref sh, .int tu])), (sf, .inl (cI, 40, .inl ff)), (sh, .inl (cI, 81, .inl (upd fh a_16.toNatClampNeg (-1))))] H := hP
          have hD : va_D A [(nw, .inr (8, [.ref sf, .ref sh, .int tu])), (sf, .inl (cI, 40, .inl ff)), (sh, .inl (cI, 81, .inl (upd fh a_16.toNatClampNeg (-1))))] := hD
          exact j_35 (upd fh a_16.toNatClampNeg (-1)) (by show kt_r (upd fh a_16.toNatClampNeg (-1)) 81 (-1) 39 ∧ (upd fh a_16.toNatClampNeg (-1)) = kt_off fh (ff p1.toNatClampNeg); first | (exfalso; omega) | exact ⟨hfh, by unfold kt_off; rw [← ea_16, if_pos (by omega)]⟩ | exact ⟨hfh, by unfold kt_off; rw [← ea_16, if_neg (by omega)]⟩) H _ hP hD hS ls (lv_sub hl [0, 1, 2, 3] rfl)
    · have d_7 := c_7
      simp only [kt_lt, kt_le, kt_eq, kt_c0, kt_c1, kt_c2, kt_c3, kt_c4, kt_c8, kt_c9, kt_cm1, kt_c81, kt_c40, kt_c7, kt_c5, kt_c6, kt_c512, kt_c10, kt_c10000] at d_7
      exact kt_rv (ff, fh) hx hb hr hlk hS dX8_place_10 hP hD (by show (kt_r ff 40 (-1) 80 ∧ kt_r fh 81 (-1) 39) ∧ ff = upd ff p1.toNatClampNeg p2 ∧ fh = kt_plc fh (ff p1.toNatClampNeg) p1 p2; first | (exfalso; omega) | exact ⟨⟨hff, hfh⟩, rfl, by unfold kt_plc; rw [if_pos (by omega), hg]⟩ | exact ⟨⟨hff, hfh⟩, rfl, by unfold kt_plc; rw [if_neg (by omega), hg]⟩)

set_option maxHeartbeats 4000000 in
set_option maxRecDepth 100000 in
theorem c_X6_enlistE (l : Launch) (D : va_G) (cI cZ cB : ClassId) (sz : Nat) (ru : Nat) (la : Nat) (gr : Nat) (rk : Nat) (rs : Nat) (rt : Nat) (rv : Nat) (tt : Int32) (kg : Int32) (vc : Int32) (lg : Int32) (lh : Int32) (lt : Int32) (lr : Int32) (lc : Int32) (fk : Nat → Int32) (fs : Nat → Int32) (ft : Nat → Int32) (p1 : Int32) (htt : 0 ≤ tt.toInt ∧ tt.toInt ≤ 39) (hkg : -1 ≤ kg.toInt ∧ kg.toInt ≤ 39) (hrk : kt_r fk 40 0 4) (hrs : kt_r fs 40 0 1) (hrt : kt_r ft 40 0 1) (hp1 : 1 ≤ p1.toInt ∧ p1.toInt ≤ 4) : kt_Mv l yX6_enlist wsX6_enlist { frames := 0, cells := 0, slots := 0, locals := 0 } D (kt_ty cI cZ cB) [.ref ru, .int p1] sz [(ru, .inr (6, [.ref la, .ref gr, .ref rk, .ref rs, .ref rt, .int tt, .int kg, .ref rv, .int vc])), (la, .inr (1, [.int lg, .int lh, .int lt, .int lr, .int lc])), (rk, .inl (cI, 40, .inl fk)), (rs, .inl (cI, 40, .inl fs)), (rt, .inl (cZ, 40, .inl ft))] (fun (u : Int32 × Int32 × (Nat → Int32) × (Nat → Int32) × (Nat → Int32)) => u.1 = tt + 1 ∧ (0 ≤ u.1.toInt ∧ u.1.toInt ≤ 40) ∧ (-1 ≤ u.2.1.toInt ∧ u.2.1.toInt ≤ 39) ∧ u.2.1 = (if p1 = 2 then tt else kg) ∧ (kt_r u.2.2.1 40 0 4 ∧ kt_r u.2.2.2.1 40 0 1 ∧ kt_r u.2.2.2.2 40 0 1) ∧ u.2.2.1 = upd fk tt.toNatClampNeg p1 ∧ (∀ q, ¬ q = tt.toNatClampNeg → u.2.2.2.1 q = fs q ∧ u.2.2.2.2 q = ft q) ∧ (u.2.2.2.1 tt.toNatClampNeg).toInt = kt_side p1 ∧ kt_B (u.2.2.2.2 tt.toNatClampNeg) (kt_tks lt p1)) (fun (u : Int32 × Int32 × (Nat → Int32) × (Nat → Int32) × (Nat → Int32)) => [(ru, .inr (6, [.ref la, .ref gr, .ref rk, .ref rs, .ref rt, .int u.1, .int u.2.1, .ref rv, .int vc])), (la, .inr (1, [.int lg, .int lh, .int lt, .int lr, .int lc])), (rk, .inl (cI, 40, .inl u.2.2.1)), (rs, .inl (cI, 40, .inl u.2.2.2.1)), (rt, .inl (cZ, 40, .inl u.2.2.2.2))]) 0 0 := by
  refine kt_Mv.of (cc := cX6_enlist) (maxL := 2) (ret := none) (by decide) rfl (Nat.le_of_ble_eq_true rfl) ?_
  intro p e s m below meth c A ls H hAt hP hD hS hl
  obtain ⟨hx, hb, hr, hml, hown, hts, hN, hK, hlk, hnm, hA⟩ := hAt
  have hl : lv_has ls 2 [(0, .ref ru), (1, .int p1)] := hl
  have hown : s.vm.findClass RX6 = some m.cls := hown
  refine lv_aload_n hx hb dX6_enlist_0 rfl (lv_at hl 0 rfl) ?_
  refine va_get (D := D) (ci := 6) (C := RX6) (T := TX6) (N := 9) hx hb hts iw_X6_enlist_X6 hown hK hP 0 rfl rfl 5 (by decide) (hts (.fieldLink RX6 40 "KingTable$Rules" "total" "I") (List.mem_cons_of_mem _ (List.mem_append_left _ (List.mem_append_left _ (List.Mem.head _))))) (fun _ h9 => h9) rfl dX6_enlist_1 ?_
  refine lv_bipush (v := 40) hx hb dX6_enlist_4 (by decide) ?_
  refine lv_icmp_lt (tgt := 10) hx hb dX6_enlist_6 (by decide) (fun c_6 => ?_) (fun c_6 => ?_)
  · have d_6 := c_6
    simp only [kt_lt, kt_le, kt_eq, kt_c0, kt_c1, kt_c2, kt_c3, kt_c4, kt_c8, kt_c9, kt_cm1, kt_c81, kt_c40, kt_c7, kt_c5, kt_c6, kt_c512, kt_c10, kt_c10000] at d_6
    refine lv_iload_n hx hb dX6_enlist_10 rfl (lv_at hl 1 rfl) ?_
    refine lv_iconst (v := 2) hx hb dX6_enlist_11 (by decide) ?_
    refine kt_join (σ := Int32) 23 2 (fun u => [(ru, .inr (6, [.ref la, .ref gr, .ref rk, .ref rs, .ref rt, .int tt, .int u, .ref rv, .int vc])), (la, .inr (1, [.int lg, .int lh, .int lt, .int lr, .int lc])), (rk, .inl (cI, 40, .inl fk)), (rs, .inl (cI, 40, .inl fs)), (rt, .inl (cZ, 40, .inl ft))]) (fun u => [(0, .ref ru), (1, .int p1)]) (fun u => []) (fun u => (-1 ≤ u.toInt ∧ u.toInt ≤ 39) ∧ u = (if p1 = 2 then tt else kg)) (D := D) (A := A) (H0 := s.heap) (fun u hI H locs hP hD hS ls hl => ?_) (fun j_23 => ?_)
    · obtain ⟨kk, rfl⟩ : ∃ z, z = u := ⟨_, rfl⟩
      have hP : va_P D vwCl [(ru, .inr (6, [.ref la, .ref gr, .ref rk, .ref rs, .ref rt, .int tt, .int kk, .ref rv, .int vc])), (la, .inr (1, [.int lg, .int lh, .int lt, .int lr, .int lc])), (rk, .inl (cI, 40, .inl fk)), (rs, .inl (cI, 40, .inl fs)), (rt, .inl (cZ, 40, .inl ft))] H := hP
      have hD : va_D A [(ru, .inr (6, [.ref la, .ref gr, .ref rk, .ref rs, .ref rt, .int tt, .int kk, .ref rv, .int vc])), (la, .inr (1, [.int lg, .int lh, .int lt, .int lr, .int lc])), (rk, .inl (cI, 40, .inl fk)), (rs, .inl (cI, 40, .inl fs)), (rt, .inl (cZ, 40, .inl ft))] := hD
      have hl : lv_has ls 2 [(0, .ref ru), (1, .int p1)] := hl
      have hI : (-1 ≤ kk.toInt ∧ kk.toInt ≤ 39) ∧ kk = (if p1 = 2 then tt else kg) := hI
      obtain ⟨hkg, hkk⟩ := hI
      refine lv_aload_n hx hb dX6_enlist_23 rfl (lv_at hl 0 rfl) ?_
      refine va_get (D := D) (ci := 6) (C := RX6) (T := TX6) (N := 9) hx hb hts iw_X6_enlist_X6 hown hK hP 0 rfl rfl 2 (by decide) (hts (.fieldLink RX6 18 "KingTable$Rules" "kinds" "[I") (List.mem_cons_of_mem _ (List.mem_append_left _ (List.mem_append_left _ (List.mem_cons_of_mem _ (List.mem_cons_of_mem _ (List.Mem.head _))))))) (fun _ h9 => h9) rfl dX6_enlist_24 ?_
      refine lv_aload_n hx hb dX6_enlist_27 rfl (lv_at hl 0 rfl) ?_
      refine va_get (D := D) (ci := 6) (C := RX6) (T := TX6) (N := 9) hx hb hts iw_X6_enlist_X6 hown hK hP 0 rfl rfl 5 (by decide) (hts (.fieldLink RX6 40 "KingTable$Rules" "total" "I") (List.mem_cons_of_mem _ (List.mem_append_left _ (List.mem_append_left _ (List.Mem.head _))))) (fun _ h9 => h9) rfl dX6_enlist_28 ?_
      refine lv_iload_n hx hb dX6_enlist_31 rfl (lv_at hl 1 rfl) ?_
      have hi_1 : vp_in tt 40 := by exact kt_in (by omega) (by omega)
      refine va_iast hx hb hK hP hD hS 2 0 rfl rfl hi_1 dX6_enlist_32 (fun H locs hP hD hS => ?_)
      have hrk : kt_r (upd fk tt.toNatClampNeg p1) 40 0 4 := hrk.upd (by omega) (by omega)
      have hP : va_P D vwCl [(ru, .inr (6, [.ref la, .ref gr, .ref rk, .ref rs, .ref rt, .int tt, .int kk, .ref rv, .int vc])), (la, .inr (1, [.int lg, .int lh, .int lt, .int lr, .int lc])), (rk, .inl (cI, 40, .inl (upd fk tt.toNatClampNeg p1))), (rs, .inl (cI, 40, .inl fs)), (rt, .inl (cZ, 40, .inl ft))] H := hP
      have hD : va_D A [(ru, .inr (6, [.ref la, .ref gr, .ref rk, .ref rs, .ref rt, .int tt, .int kk, .ref rv, .int vc])), (la, .inr (1, [.int lg, .int lh, .int lt, .int lr, .int lc])), (rk, .inl (cI, 40, .inl (upd fk tt.toNatClampNeg p1))), (rs, .inl (cI, 40, .inl fs)), (rt, .inl (cZ, 40, .inl ft))] := hD
      refine lv_aload_n hx hb dX6_enlist_33 rfl (lv_at hl 0 rfl) ?_
      refine va_get (D := D) (ci := 6) (C := RX6) (T := TX6) (N := 9) hx hb hts iw_X6_enlist_X6 hown hK hP 0 rfl rfl 3 (by decide) (hts (.fieldLink RX6 22 "KingTable$Rules" "sides" "[I") (List.mem_cons_of_mem _ (List.mem_append_left _ (List.mem_append_left _ (List.mem_cons_of_mem _ (List.mem_cons_of_mem _ (List.mem_cons_of_mem _ (List.Mem.head _)))))))) (fun _ h9 => h9) rfl dX6_enlist_34 ?_
      refine lv_aload_n hx hb dX6_enlist_37 rfl (lv_at hl 0 rfl) ?_
      refine va_get (D := D) (ci := 6) (C := RX6) (T := TX6) (N := 9) hx hb hts iw_X6_enlist_X6 hown hK hP 0 rfl rfl 5 (by decide) (hts (.fieldLink RX6 40 "KingTable$Rules" "total" "I") (List.mem_cons_of_mem _ (List.mem_append_left _ (List.mem_append_left _ (List.Mem.head _))))) (fun _ h9 => h9) rfl dX6_enlist_38 ?_
      refine lv_iload_n hx hb dX6_enlist_41 rfl (lv_at hl 1 rfl) ?_
      refine lv_iconst (v := 2) hx hb dX6_enlist_42 (by decide) ?_
      refine kt_join (σ := Int32) 56 2 (fun u => [(ru, .inr (6, [.ref la, .ref gr, .ref rk, .ref rs, .ref rt, .int tt, .int kk, .ref rv, .int vc])), (la, .inr (1, [.int lg, .int lh, .int lt, .int lr, .int lc])), (rk, .inl (cI, 40, .inl (upd fk tt.toNatClampNeg p1))), (rs, .inl (cI, 40, .inl fs)), (rt, .inl (cZ, 40, .inl ft))]) (fun u => [(0, .ref ru), (1, .int p1)]) (fun u => [.int u, .int tt, .ref rs]) (fun u => u.toInt = kt_side p1 ∧ 0 ≤ u.toInt ∧ u.toInt ≤ 1) (D := D) (A := A) (H0 := s.heap) (fun u hI H locs hP hD hS ls hl => ?_) (fun j_56 => ?_)
      · obtain ⟨v, rfl⟩ : ∃ z, z = u := ⟨_, rfl⟩
        have hP : va_P D vwCl [(ru, .inr (6, [.ref la, .ref gr, .ref rk, .ref rs, .ref rt, .int tt, .int kk, .ref rv, .int vc])), (la, .inr (1, [.int lg, .int lh, .int lt, .int lr, .int lc])), (rk, .inl (cI, 40, .inl (upd fk tt.toNatClampNeg p1))), (rs, .inl (cI, 40, .inl fs)), (rt, .inl (cZ, 40, .inl ft))] H := hP
        have hD : va_D A [(ru, .inr (6, [.ref la, .ref gr, .ref rk, .ref rs, .ref rt, .int tt, .int kk, .ref rv, .int vc])), (la, .inr (1, [.int lg, .int lh, .int lt, .int lr, .int lc])), (rk, .inl (cI, 40, .inl (upd fk tt.toNatClampNeg p1))), (rs, .inl (cI, 40, .inl fs)), (rt, .inl (cZ, 40, .inl ft))] := hD
        have hl : lv_has ls 2 [(0, .ref ru), (1, .int p1)] := hl
        have hI : v.toInt = kt_side p1 ∧ 0 ≤ v.toInt ∧ v.toInt ≤ 1 := hI
        obtain ⟨hvs, hv⟩ := hI
        have hi_2 : vp_in tt 40 := by exact kt_in (by omega) (by omega)
        refine va_iast hx hb hK hP hD hS 3 0 rfl rfl hi_2 dX6_enlist_56 (fun H locs hP hD hS => ?_)
        have hrs : kt_r (upd fs tt.toNatClampNeg v) 40 0 1 := hrs.upd (by omega) (by omega)
        have hP : va_P D vwCl [(ru, .inr (6, [.ref la, .ref gr, .ref rk, .ref rs, .ref rt, .int tt, .int kk, .ref rv, .int vc])), (la, .inr (1, [.int lg, .int lh, .int lt, .int lr, .int lc])), (rk, .inl (cI, 40, .inl (upd fk tt.toNatClampNeg p1))), (rs, .inl (cI, 40, .inl (upd fs tt.toNatClampNeg v))), (rt, .inl (cZ, 40, .inl ft))] H := hP
        have hD : va_D A [(ru, .inr (6, [.ref la, .ref gr, .ref rk, .ref rs, .ref rt, .int tt, .int kk, .ref rv, .int vc])), (la, .inr (1, [.int lg, .int lh, .int lt, .int lr, .int lc])), (rk, .inl (cI, 40, .inl (upd fk tt.toNatClampNeg p1))), (rs, .inl (cI, 40, .inl (upd fs tt.toNatClampNeg v))), (rt, .inl (cZ, 40, .inl ft))] := hD
        refine lv_aload_n hx hb dX6_enlist_57 rfl (lv_at hl 0 rfl) ?_
        refine va_get (D := D) (ci := 6) (C := RX6) (T := TX6) (N := 9) hx hb hts iw_X6_enlist_X6 hown hK hP 0 rfl rfl 4 (by decide) (hts (.fieldLink RX6 25 "KingTable$Rules" "takers" "[Z") (List.mem_cons_of_mem _ (List.mem_append_left _ (List.mem_append_left _ (List.mem_cons_of_mem _ (List.mem_cons_of_mem _ (List.mem_cons_of_mem _ (List.mem_cons_of_mem _ (List.Mem.head _))))))))) (fun _ h9 => h9) rfl dX6_enlist_58 ?_
        refine lv_aload_n hx hb dX6_enlist_61 rfl (lv_at hl 0 rfl) ?_
        refine va_get (D := D) (ci := 6) (C := RX6) (T := TX6) (N := 9) hx hb hts iw_X6_enlist_X6 hown hK hP 0 rfl rfl 5 (by decide) (hts (.fieldLink RX6 40 "KingTable$Rules" "total" "I") (List.mem_cons_of_mem _ (List.mem_append_left _ (List.mem_append_left _ (List.Mem.head _))))) (fun _ h9 => h9) rfl dX6_enlist_62 ?_
        refine lv_iload_n hx hb dX6_enlist_65 rfl (lv_at hl 1 rfl) ?_
        refine lv_iconst (v := 2) hx hb dX6_enlist_66 (by decide) ?_
        refine kt_join (σ := Int32) 85 2 (fun u => [(ru, .inr (6, [.ref la, .ref gr, .ref rk, .ref rs, .ref rt, .int tt, .int kk, .ref rv, .int vc])), (la, .inr (1, [.int lg, .int lh, .int lt, .int lr, .int lc])), (rk, .inl (cI, 40, .inl (upd fk tt.toNatClampNeg p1))), (rs, .inl (cI, 40, .inl (upd fs tt.toNatClampNeg v))), (rt, .inl (cZ, 40, .inl ft))]) (fun u => [(0, .ref ru), (1, .int p1)]) (fun u => [.int u, .int tt, .ref rt]) (fun u => kt_B u (kt_tks lt p1) ∧ 0 ≤ u.toInt ∧ u.toInt ≤ 1) (D := D) (A := A) (H0 := s.heap) (fun u hI H locs hP hD hS ls hl => ?_) (fun j_85 => ?_)
        · obtain ⟨w, rfl⟩ : ∃ z, z = u := ⟨_, rfl⟩
          have hP : va_P D vwCl [(ru, .inr (6, [.ref la, .ref gr, .ref rk, .ref rs, .ref rt, .int tt, .int kk, .ref rv, .int vc])), (la, .inr (1, [.int lg, .int lh, .int lt, .int lr, .int lc])), (rk, .inl (cI, 40, .inl (upd fk tt.toNatClampNeg p1))), (rs, .inl (cI, 40, .inl (upd fs tt.toNatClampNeg v))), (rt, .inl (cZ, 40, .inl ft))] H := hP
          have hD : va_D A [(ru, .inr (6, [.ref la, .ref gr, .ref rk, .ref rs, .ref rt, .int tt, .int kk, .ref rv, .int vc])), (la, .inr (1, [.int lg, .int lh, .int lt, .int lr, .int lc])), (rk, .inl (cI, 40, .inl (upd fk tt.toNatClampNeg p1))), (rs, .inl (cI, 40, .inl (upd fs tt.toNatClampNeg v))), (rt, .inl (cZ, 40, .inl ft))] := hD
          have hl : lv_has ls 2 [(0, .ref ru), (1, .int p1)] := hl
          have hI : kt_B w (kt_tks lt p1) ∧ 0 ≤ w.toInt ∧ w.toInt ≤ 1 := hI
          obtain ⟨hwt, hw⟩ := hI
          have hwn := kt_zn hw.1 hw.2
          have hi_3 : vp_in tt 40 := by exact kt_in (by omega) (by omega)
          refine va_zast hx hb hK hP hD hS 4 1 rfl rfl hi_3 dX6_enlist_85 (fun H locs hP hD hS => ?_)
          have hrt : kt_r (upd ft tt.toNatClampNeg (vp_nar .boolean w)) 40 0 1 := hrt.upd (by rw [hwn]; exact hw.1) (by rw [hwn]; exact hw.2)
          have hP : va_P D vwCl [(ru, .inr (6, [.ref la, .ref gr, .ref rk, .ref rs, .ref rt, .int tt, .int kk, .ref rv, .int vc])), (la, .inr (1, [.int lg, .int lh, .int lt, .int lr, .int lc])), (rk, .inl (cI, 40, .inl (upd fk tt.toNatClampNeg p1))), (rs, .inl (cI, 40, .inl (upd fs tt.toNatClampNeg v))), (rt, .inl (cZ, 40, .inl (upd ft tt.toNatClampNeg (vp_nar .boolean w))))] H := hP
          have hD : va_D A [(ru, .inr (6, [.ref la, .ref gr, .ref rk, .ref rs, .ref rt, .int tt, .int kk, .ref rv, .int vc])), (la, .inr (1, [.int lg, .int lh, .int lt, .int lr, .int lc])), (rk, .inl (cI, 40, .inl (upd fk tt.toNatClampNeg p1))), (rs, .inl (cI, 40, .inl (upd fs tt.toNatClampNeg v))), (rt, .inl (cZ, 40, .inl (upd ft tt.toNatClampNeg (vp_nar .boolean w))))] := hD
          refine lv_aload_n hx hb dX6_enlist_86 rfl (lv_at hl 0 rfl) ?_
          refine lv_dup hx hb dX6_enlist_87 rfl ?_
          refine va_get (D := D) (ci := 6) (C := RX6) (T := TX6) (N := 9) hx hb hts iw_X6_enlist_X6 hown hK hP 0 rfl rfl 5 (by decide) (hts (.fieldLink RX6 40 "KingTable$Rules" "total" "I") (List.mem_cons_of_mem _ (List.mem_append_left _ (List.mem_append_left _ (List.Mem.head _))))) (fun _ h9 => h9) rfl dX6_enlist_88 ?_
          refine lv_iconst (v := 1) hx hb dX6_enlist_91 (by decide) ?_
          refine lv_iadd hx hb dX6_enlist_92 ?_
          refine lv_topi (fun t_92 et_92 => ?_)
          first | have hk_92 := kt_addx et_92 (by first | omega | (simp only [kt_c0, kt_c1, kt_c2, kt_c3, kt_c4, kt_c8, kt_c9, kt_cm1, kt_c81, kt_c40, kt_c7, kt_c5, kt_c6, kt_c512, kt_c10, kt_c10000]; omega)) (by first | omega | (simp only [kt_c0, kt_c1, kt_c2, kt_c3, kt_c4, kt_c8, kt_c9, kt_cm1, kt_c81, kt_c40, kt_c7, kt_c5, kt_c6, kt_c512, kt_c10, kt_c10000]; omega)) | obtain ⟨k_92, hk_92, hm_92, hM_92⟩ := kt_addk et_92
          try simp only [kt_c0, kt_c1, kt_c2, kt_c3, kt_c4, kt_c8, kt_c9, kt_cm1, kt_c81, kt_c40, kt_c7, kt_c5, kt_c6, kt_c512, kt_c10, kt_c10000] at hk_92
          refine va_put (D := D) (ci := 6) (v := .int t_92) (ty := .int) (C := RX6) (T := TX6) (N := 9) hx hb hts iw_X6_enlist_X6 tyX6 tyX6_ok nmX6 hown hK hP hD hS 0 rfl rfl 5 (by decide) (hts (.fieldLink RX6 40 "KingTable$Rules" "total" "I") (List.mem_cons_of_mem _ (List.mem_append_left _ (List.mem_append_left _ (List.Mem.head _))))) (fun _ h9 => h9) rfl (by decide +kernel) rfl rfl (Nat.le_of_ble_eq_true rfl) dX6_enlist_93 (fun H locs hP hD hS => ?_)
          have hP : va_P D vwCl [(ru, .inr (6, [.ref la, .ref gr, .ref rk, .ref rs, .ref rt, .int t_92, .int kk, .ref rv, .int vc])), (la, .inr (1, [.int lg, .int lh, .int lt, .int lr, .int lc])), (rk, .inl (cI, 40, .inl (upd fk tt.toNatClampNeg p1))), (rs, .inl (cI, 40, .inl (upd fs tt.toNatClampNeg v))), (rt, .inl (cZ, 40, .inl (upd ft tt.toNatClampNeg (vp_nar .boolean w))))] H := hP
          have hD : va_D A [(ru, .inr (6, [.ref la, .ref gr, .ref rk, .ref rs, .ref rt, .int t_92, .int kk, .ref rv, .int vc])), (la, .inr (1, [.int lg, .int lh, .int lt, .int lr, .int lc])), (rk, .inl (cI, 40, .inl (upd fk tt.toNatClampNeg p1))), (rs, .inl (cI, 40, .inl (upd fs tt.toNatClampNeg v))), (rt, .inl (cZ, 40, .inl (upd ft tt.toNatClampNeg (vp_nar .boolean w))))] := hD
          exact kt_rv (t_92, kk, upd fk tt.toNatClampNeg p1, upd fs tt.toNatClampNeg v, upd ft tt.toNatClampNeg (vp_nar .boolean w)) hx hb hr hlk hS dX6_enlist_96 hP hD (by show t_92 = tt + 1 ∧ (0 ≤ t_92.toInt ∧ t_92.toInt ≤ 40) ∧ (-1 ≤ kk.toInt ∧ kk.toInt ≤ 39) ∧ kk = (if p1 = 2 then tt else kg) ∧ (kt_r (upd fk tt.toNatClampNeg p1) 40 0 4 ∧ kt_r (upd fs tt.toNatClampNeg v) 40 0 1 ∧ kt_r (upd ft tt.toNatClampNeg (vp_nar .boolean w)) 40 0 1) ∧ (upd fk tt.toNatClampNeg p1) = upd fk tt.toNatClampNeg p1 ∧ (∀ q, ¬ q = tt.toNatClampNeg → (upd fs tt.toNatClampNeg v) q = fs q ∧ (upd ft tt.toNatClampNeg (vp_nar .boolean w)) q = ft q) ∧ ((upd fs tt.toNatClampNeg v) tt.toNatClampNeg).toInt = kt_side p1 ∧ kt_B ((upd ft tt.toNatClampNeg (vp_nar .boolean w)) tt.toNatClampNeg) (kt_tks lt p1); first | (exfalso; omega) | exact ⟨et_92, by omega, hkg, hkk, ⟨hrk, hrs, hrt⟩, rfl, fun qq hq => ⟨pk_un hq, pk_un hq⟩, by rw [pk_us]; exact hvs, by rw [pk_us, hwn]; exact hwt⟩)
        refine lv_icmp_ne (tgt := 80) hx hb dX6_enlist_67 (by decide) (fun c_67 => ?_) (fun c_67 => ?_)
        · have d_67 := c_67
          simp only [kt_lt, kt_le, kt_eq, kt_c0, kt_c1, kt_c2, kt_c3, kt_c4, kt_c8, kt_c9, kt_cm1, kt_c81, kt_c40, kt_c7, kt_c5, kt_c6, kt_c512, kt_c10, kt_c10000] at d_67
          refine lv_iconst (v := 1) hx hb dX6_enlist_80 (by decide) ?_
          refine lv_goto (tgt := 85) hx hb dX6_enlist_81 (by decide) ?_
          exact j_85 (1 : Int32) (by show kt_B (1 : Int32) (kt_tks lt p1) ∧ 0 ≤ (1 : Int32).toInt ∧ (1 : Int32).toInt ≤ 1; first | exact ⟨Or.inl ⟨rfl, Or.inl c_67⟩, by decide⟩ | exact ⟨Or.inl ⟨rfl, Or.inr c_77⟩, by decide⟩ | exact ⟨Or.inr ⟨rfl, fun h => h.elim (fun h1 => h1 c_67) (fun h2 => h2 c_77)⟩, by decide⟩) H _ hP hD hS ls (lv_sub hl [0, 1] rfl)
        · have d_67 := c_67
          simp only [kt_lt, kt_le, kt_eq, kt_c0, kt_c1, kt_c2, kt_c3, kt_c4, kt_c8, kt_c9, kt_cm1, kt_c81, kt_c40, kt_c7, kt_c5, kt_c6, kt_c512, kt_c10, kt_c10000] at d_67
          refine lv_aload_n hx hb dX6_enlist_70 rfl (lv_at hl 0 rfl) ?_
          refine va_get (D := D) (ci := 6) (C := RX6) (T := TX6) (N := 9) hx hb hts iw_X6_enlist_X6 hown hK hP 0 rfl rfl 0 (by decide) (hts (.fieldLink RX6 36 "KingTable$Rules" "laws" "LKingTable$Laws;") (List.mem_cons_of_mem _ (List.mem_append_left _ (List.mem_append_left _ (List.mem_cons_of_mem _ (List.mem_cons_of_mem _ (List.mem_cons_of_mem _ (List.mem_cons_of_mem _ (List.mem_cons_of_mem _ (List.Mem.head _)))))))))) (fun _ h9 => h9) rfl dX6_enlist_71 ?_
          refine va_getN (D := D) (ci := 1) (C := RX1) (T := TX1) (N := 5) hx hb hts iw_X6_enlist_X1 hown hK hP 1 rfl rfl 2 (by decide) (va_Nw.use (w := .fieldLinkNest RX6 43 "KingTable$Laws" "kingTakes" "Z" "KingTable") rfl (hN _ (by decide +kernel))) (fun _ h9 => h9) rfl dX6_enlist_74 ?_
          refine lv_if_eq (tgt := 84) hx hb dX6_enlist_77 (by decide) (fun c_77 => ?_) (fun c_77 => ?_)
          · have d_77 := c_77
            simp only [kt_lt, kt_le, kt_eq, kt_c0, kt_c1, kt_c2, kt_c3, kt_c4, kt_c8, kt_c9, kt_cm1, kt_c81, kt_c40, kt_c7, kt_c5, kt_c6, kt_c512, kt_c10, kt_c10000] at d_77
            refine lv_iconst (v := 0) hx hb dX6_enlist_84 (by decide) ?_
            exact j_85 (0 : Int32) (by show kt_B (0 : Int32) (kt_tks lt p1) ∧ 0 ≤ (0 : Int32).toInt ∧ (0 : Int32).toInt ≤ 1; first | exact ⟨Or.inl ⟨rfl, Or.inl c_67⟩, by decide⟩ | exact ⟨Or.inl ⟨rfl, Or.inr c_77⟩, by decide⟩ | exact ⟨Or.inr ⟨rfl, fun h => h.elim (fun h1 => h1 c_67) (fun h2 => h2 c_77)⟩, by decide⟩) H _ hP hD hS ls (lv_sub hl [0, 1] rfl)
          · have d_77 := c_77
            simp only [kt_lt, kt_le, kt_eq, kt_c0, kt_c1, kt_c2, kt_c3, kt_c4, kt_c8, kt_c9, kt_cm1, kt_c81, kt_c40, kt_c7, kt_c5, kt_c6, kt_c512, kt_c10, kt_c10000] at d_77
            refine lv_iconst (v := 1) hx hb dX6_enlist_80 (by decide) ?_
            refine lv_goto (tgt := 85) hx hb dX6_enlist_81 (by decide) ?_
            exact j_85 (1 : Int32) (by show kt_B (1 : Int32) (kt_tks lt p1) ∧ 0 ≤ (1 : Int32).toInt ∧ (1 : Int32).toInt ≤ 1; first | exact ⟨Or.inl ⟨rfl, Or.inl c_67⟩, by decide⟩ | exact ⟨Or.inl ⟨rfl, Or.inr c_77⟩, by decide⟩ | exact ⟨Or.inr ⟨rfl, fun h => h.elim (fun h1 => h1 c_67) (fun h2 => h2 c_77)⟩, by decide⟩) H _ hP hD hS ls (lv_sub hl [0, 1] rfl)
      refine lv_icmp_eq (tgt := 51) hx hb dX6_enlist_43 (by decide) (fun c_43 => ?_) (fun c_43 => ?_)
      · have d_43 := c_43
        simp only [kt_lt, kt_le, kt_eq, kt_c0, kt_c1, kt_c2, kt_c3, kt_c4, kt_c8, kt_c9, kt_cm1, kt_c81, kt_c40, kt_c7, kt_c5, kt_c6, kt_c512, kt_c10, kt_c10000] at d_43
        refine lv_iconst (v := 0) hx hb dX6_enlist_51 (by decide) ?_
        refine lv_goto (tgt := 56) hx hb dX6_enlist_52 (by decide) ?_
        exact j_56 (0 : Int32) (by show (0 : Int32).toInt = kt_side p1 ∧ 0 ≤ (0 : Int32).toInt ∧ (0 : Int32).toInt ≤ 1; unfold kt_side; first | exact ⟨by rw [if_neg (by omega)]; decide, by decide⟩ | exact ⟨by rw [if_pos (by omega)]; decide, by decide⟩) H _ hP hD hS ls (lv_sub hl [0, 1] rfl)
      · have d_43 := c_43
        simp only [kt_lt, kt_le, kt_eq, kt_c0, kt_c1, kt_c2, kt_c3, kt_c4, kt_c8, kt_c9, kt_cm1, kt_c81, kt_c40, kt_c7, kt_c5, kt_c6, kt_c512, kt_c10, kt_c10000] at d_43
        refine lv_iload_n hx hb dX6_enlist_46 rfl (lv_at hl 1 rfl) ?_
        refine lv_iconst (v := 1) hx hb dX6_enlist_47 (by decide) ?_
        refine lv_icmp_ne (tgt := 55) hx hb dX6_enlist_48 (by decide) (fun c_48 => ?_) (fun c_48 => ?_)
        · have d_48 := c_48
          simp only [kt_lt, kt_le, kt_eq, kt_c0, kt_c1, kt_c2, kt_c3, kt_c4, kt_c8, kt_c9, kt_cm1, kt_c81, kt_c40, kt_c7, kt_c5, kt_c6, kt_c512, kt_c10, kt_c10000] at d_48
          refine lv_iconst (v := 1) hx hb dX6_enlist_55 (by decide) ?_
          exact j_56 (1 : Int32) (by show (1 : Int32).toInt = kt_side p1 ∧ 0 ≤ (1 : Int32).toInt ∧ (1 : Int32).toInt ≤ 1; unfold kt_side; first | exact ⟨by rw [if_neg (by omega)]; decide, by decide⟩ | exact ⟨by rw [if_pos (by omega)]; decide, by decide⟩) H _ hP hD hS ls (lv_sub hl [0, 1] rfl)
        · have d_48 := c_48
          simp only [kt_lt, kt_le, kt_eq, kt_c0, kt_c1, kt_c2, kt_c3, kt_c4, kt_c8, kt_c9, kt_cm1, kt_c81, kt_c40, kt_c7, kt_c5, kt_c6, kt_c512, kt_c10, kt_c10000] at d_48
          refine lv_iconst (v := 0) hx hb dX6_enlist_51 (by decide) ?_
          refine lv_goto (tgt := 56) hx hb dX6_enlist_52 (by decide) ?_
          exact j_56 (0 : Int32) (by show (0 : Int32).toInt = kt_side p1 ∧ 0 ≤ (0 : Int32).toInt ∧ (0 : Int32).toInt ≤ 1; unfold kt_side; first | exact ⟨by rw [if_neg (by omega)]; decide, by decide⟩ | exact ⟨by rw [if_pos (by omega)]; decide, by decide⟩) H _ hP hD hS ls (lv_sub hl [0, 1] rfl)
    refine lv_icmp_ne (tgt := 23) hx hb dX6_enlist_12 (by decide) (fun c_12 => ?_) (fun c_12 => ?_)
    · have d_12 := c_12
      simp only [kt_lt, kt_le, kt_eq, kt_c0, kt_c1, kt_c2, kt_c3, kt_c4, kt_c8, kt_c9, kt_cm1, kt_c81, kt_c40, kt_c7, kt_c5, kt_c6, kt_c512, kt_c10, kt_c10000] at d_12
      exact j_23 kg (by show (-1 ≤ kg.toInt ∧ kg.toInt ≤ 39) ∧ kg = (if p1 = 2 then tt else kg); first | exact ⟨by omega, (if_pos c_12).symm⟩ | exact ⟨by omega, (if_neg c_12).symm⟩) H _ hP hD hS ls (lv_sub hl [0, 1] rfl)
    · have d_12 := c_12
      simp only [kt_lt, kt_le, kt_eq, kt_c0, kt_c1, kt_c2, kt_c3, kt_c4, kt_c8, kt_c9, kt_cm1, kt_c81, kt_c40, kt_c7, kt_c5, kt_c6, kt_c512, kt_c10, kt_c10000] at d_12
      refine lv_aload_n hx hb dX6_enlist_15 rfl (lv_at hl 0 rfl) ?_
      refine lv_aload_n hx hb dX6_enlist_16 rfl (lv_at hl 0 rfl) ?_
      refine va_get (D := D) (ci := 6) (C := RX6) (T := TX6) (N := 9) hx hb hts iw_X6_enlist_X6 hown hK hP 0 rfl rfl 5 (by decide) (hts (.fieldLink RX6 40 "KingTable$Rules" "total" "I") (List.mem_cons_of_mem _ (List.mem_append_left _ (List.mem_append_left _ (List.Mem.head _))))) (fun _ h9 => h9) rfl dX6_enlist_17 ?_
      refine va_put (D := D) (ci := 6) (v := .int tt) (ty := .int) (C := RX6) (T := TX6) (N := 9) hx hb hts iw_X6_enlist_X6 tyX6 tyX6_ok nmX6 hown hK hP hD hS 0 rfl rfl 6 (by decide) (hts (.fieldLink RX6 29 "KingTable$Rules" "king" "I") (List.mem_cons_of_mem _ (List.mem_append_left _ (List.mem_append_left _ (List.mem_cons_of_mem _ (List.Mem.head _)))))) (fun _ h9 => h9) rfl (by decide +kernel) rfl rfl (Nat.le_of_ble_eq_true rfl) dX6_enlist_20 (fun H locs hP hD hS => ?_)
      have hP : va_P D vwCl [(ru, .inr (6, [.ref la, .ref gr, .ref rk, .ref rs, .ref rt, .int tt, .int tt, .ref rv, .int vc])), (la, .inr (1, [.int lg, .int lh, .int lt, .int lr, .int lc])), (rk, .inl (cI, 40, .inl fk)), (rs, .inl (cI, 40, .inl fs)), (rt, .inl (cZ, 40, .inl ft))] H := hP
      have hD : va_D A [(ru, .inr (6, [.ref la, .ref gr, .ref rk, .ref rs, .ref rt, .int tt, .int tt, .ref rv, .int vc])), (la, .inr (1, [.int lg, .int lh, .int lt, .int lr, .int lc])), (rk, .inl (cI, 40, .inl fk)), (rs, .inl (cI, 40, .inl fs)), (rt, .inl (cZ, 40, .inl ft))] := hD
      exact j_23 tt (by show (-1 ≤ tt.toInt ∧ tt.toInt ≤ 39) ∧ tt = (if p1 = 2 then tt else kg); first | exact ⟨by omega, (if_pos c_12).symm⟩ | exact ⟨by omega, (if_neg c_12).symm⟩) H _ hP hD hS ls (lv_sub hl [0, 1] rfl)
  · have d_6 := c_6
    simp only [kt_lt, kt_le, kt_eq, kt_c0, kt_c1, kt_c2, kt_c3, kt_c4, kt_c8, kt_c9, kt_cm1, kt_c81, kt_c40, kt_c7, kt_c5, kt_c6, kt_c512, kt_c10, kt_c10000] at d_6
    exact kt_rv (tt, kg, fk, fs, ft) hx hb hr hlk hS dX6_enlist_9 hP hD (by show tt = tt + 1 ∧ (0 ≤ tt.toInt ∧ tt.toInt ≤ 40) ∧ (-1 ≤ kg.toInt ∧ kg.toInt ≤ 39) ∧ kg = (if p1 = 2 then tt else kg) ∧ (kt_r fk 40 0 4 ∧ kt_r fs 40 0 1 ∧ kt_r ft 40 0 1) ∧ fk = upd fk tt.toNatClampNeg p1 ∧ (∀ q, ¬ q = tt.toNatClampNeg → fs q = fs q ∧ ft q = ft q) ∧ (fs tt.toNatClampNeg).toInt = kt_side p1 ∧ kt_B (ft tt.toNatClampNeg) (kt_tks lt p1); first | (exfalso; omega) | exact ⟨et_92, by omega, hkg, hkk, ⟨hrk, hrs, hrt⟩, rfl, fun qq hq => ⟨pk_un hq, pk_un hq⟩, by rw [pk_us]; exact hvs, by rw [pk_us, hwn]; exact hwt⟩)

set_option maxHeartbeats 4000000 in
set_option maxRecDepth 100000 in
theorem c_X10_fieldE (l : Launch) (D : va_G) (cI cZ cB : ClassId) (sz : Nat) (kt : Nat) (to : Nat) (la : Nat) (ru : Nat) (pl : Nat) (ho : Nat) (so : Nat) (st : Int32) (nw : Nat) (lo : Nat) (sg : Nat) (ln : Int32) (wd : Int32) (gr : Nat) (rk : Nat) (rs : Nat) (rt : Nat) (rv : Nat) (tt : Int32) (kg : Int32) (vc : Int32) (gt : Nat) (gg : Nat) (gn : Nat) (gs : Int32) (gm : Int32) (tg : Nat → Int32) (gl : Nat → Int32) (p1 : Int32) (hln : 2 ≤ ln.toInt ∧ ln.toInt ≤ 9) (hwd : 2 ≤ wd.toInt ∧ wd.toInt ≤ 9) (hgt : kt_r tg 81 0 2) (hgg : kt_r gl 81 0 1) : kt_Mi l yX10_field wsX10_field { frames := 1, cells := 0, slots := 0, locals := 20 } D (kt_ty cI cZ cB) [.ref kt, .int p1] sz [(kt, .inr (10, [.ref to, .ref la, .ref ru, .ref pl, .ref ho, .ref so])), (pl, .inr (4, [.ref la, .ref ru, .ref nw, .ref lo, .int st])), (to, .inr (9, [.ref sg, .int ln, .int wd])), (ru, .inr (6, [.ref la, .ref gr, .ref rk, .ref rs, .ref rt, .int tt, .int kg, .ref rv, .int vc])), (gr, .inr (0, [.ref gt, .ref gg, .ref gn, .int gs, .int gm])), (gt, .inl (cI, 81, .inl tg)), (gg, .inl (cZ, 81, .inl gl))] (fun (r : Int32) (u : Unit) => ((¬ st.toInt = 0 ∧ 0 ≤ p1.toInt ∧ p1.toInt < ln.toInt * wd.toInt) → kt_fvl (tg p1.toNatClampNeg).toInt (¬ gl p1.toNatClampNeg = 0) r.toInt) ∧ (¬ (¬ st.toInt = 0 ∧ 0 ≤ p1.toInt ∧ p1.toInt < ln.toInt * wd.toInt) → r.toInt = -1)) (fun (u : Unit) => [(kt, .inr (10, [.ref to, .ref la, .ref ru, .ref pl, .ref ho, .ref so])), (pl, .inr (4, [.ref la, .ref ru, .ref nw, .ref lo, .int st])), (to, .inr (9, [.ref sg, .int ln, .int wd])), (ru, .inr (6, [.ref la, .ref gr, .ref rk, .ref rs, .ref rt, .int tt, .int kg, .ref rv, .int vc])), (gr, .inr (0, [.ref gt, .ref gg, .ref gn, .int gs, .int gm])), (gt, .inl (cI, 81, .inl tg)), (gg, .inl (cZ, 81, .inl gl))]) 0 0 := by
  refine kt_Mi.of (cc := cX10_field) (maxL := 2) (ret := some .int) (by decide) rfl (Nat.le_of_ble_eq_true rfl) ?_
  intro p e s m below meth c A ls H hAt hP hD hS hl
  obtain ⟨hx, hb, hr, hml, hown, hts, hN, hK, hlk, hnm, hA⟩ := hAt
  have hl : lv_has ls 2 [(0, .ref kt), (1, .int p1)] := hl
  have hown : s.vm.findClass RX10 = some m.cls := hown
  refine lv_aload_n hx hb dX10_field_0 rfl (lv_at hl 0 rfl) ?_
  refine va_get (D := D) (ci := 10) (C := RX10) (T := TX10) (N := 6) hx hb hts iw_X10_field_X10 hown hK hP 0 rfl rfl 3 (by decide) (hts (.fieldLink RX10 37 "KingTable" "play" "LKingTable$Play;") (List.mem_cons_of_mem _ (List.mem_append_left _ (List.mem_append_left _ (List.mem_append_left _ (List.mem_append_left _ (List.mem_append_left _ (List.Mem.head _)))))))) (fun _ h9 => h9) rfl dX10_field_1 ?_
  refine kt_pi (wc := [(pl, .inr (4, [.ref la, .ref ru, .ref nw, .ref lo, .int st]))]) [1] hP hD hS hA rfl (by decide) (fun hPc hDc => va_runV (As := []) (rest := []) ⟨hx, hb, hml, hown, hts⟩ (c_X4_isThere l D cI cZ cB H.size pl la ru nw lo st ) (cwV 0 hts gX10_field_X4_isThere rfl rfl rfl (by decide +kernel) ⟨Nat.le_of_ble_eq_true rfl, Nat.le_of_ble_eq_true rfl⟩) (kt_preV hN hK hPc hDc 0 (ci := 4) (q := (RX4, TX4, 5)) rfl rfl) rfl rfl hl.1 rfl (lv_room (Nat.le_of_ble_eq_true rfl)) dX10_field_4 ⟨Nat.le_of_ble_eq_true rfl, Nat.le_of_ble_eq_true rfl⟩) (fun r_4 _ H locs hw_4 hP hS => ?_)
  refine lv_if_eq (tgt := 25) hx hb dX10_field_7 (by decide) (fun c_7 => ?_) (fun c_7 => ?_)
  · have d_7 := c_7
    simp only [kt_lt, kt_le, kt_eq, kt_c0, kt_c1, kt_c2, kt_c3, kt_c4, kt_c8, kt_c9, kt_cm1, kt_c81, kt_c40, kt_c7, kt_c5, kt_c6, kt_c512, kt_c10, kt_c10000] at d_7
    refine lv_iconst (v := (-1)) hx hb dX10_field_25 (by decide) ?_
    exact kt_ri () hx hb hr hlk hS dX10_field_26 hP hD (by show ((¬ st.toInt = 0 ∧ 0 ≤ p1.toInt ∧ p1.toInt < ln.toInt * wd.toInt) → kt_fvl (tg p1.toNatClampNeg).toInt (¬ gl p1.toNatClampNeg = 0) (-1 : Int32).toInt) ∧ (¬ (¬ st.toInt = 0 ∧ 0 ≤ p1.toInt ∧ p1.toInt < ln.toInt * wd.toInt) → (-1 : Int32).toInt = -1); first
         | exact ⟨fun h => absurd h.1 (hw_4.f c_7), fun _ => by decide⟩
         | exact ⟨fun h => by exfalso; omega, fun _ => by decide⟩
         | exact ⟨fun _ => by rcases hv with ⟨h1, h2⟩ | ⟨h1, h2⟩; exact Or.inl ⟨h2, by omega⟩; exact Or.inr ⟨fun h => h h2, by omega⟩, fun h => absurd ⟨hst0, by omega, by omega⟩ h⟩)
  · have d_7 := c_7
    simp only [kt_lt, kt_le, kt_eq, kt_c0, kt_c1, kt_c2, kt_c3, kt_c4, kt_c8, kt_c9, kt_cm1, kt_c81, kt_c40, kt_c7, kt_c5, kt_c6, kt_c512, kt_c10, kt_c10000] at d_7
    refine lv_iload_n hx hb dX10_field_10 rfl (lv_at hl 1 rfl) ?_
    refine lv_if_lt (tgt := 25) hx hb dX10_field_11 (by decide) (fun c_11 => ?_) (fun c_11 => ?_)
    · have d_11 := c_11
      simp only [kt_lt, kt_le, kt_eq, kt_c0, kt_c1, kt_c2, kt_c3, kt_c4, kt_c8, kt_c9, kt_cm1, kt_c81, kt_c40, kt_c7, kt_c5, kt_c6, kt_c512, kt_c10, kt_c10000] at d_11
      refine lv_iconst (v := (-1)) hx hb dX10_field_25 (by decide) ?_
      exact kt_ri () hx hb hr hlk hS dX10_field_26 hP hD (by show ((¬ st.toInt = 0 ∧ 0 ≤ p1.toInt ∧ p1.toInt < ln.toInt * wd.toInt) → kt_fvl (tg p1.toNatClampNeg).toInt (¬ gl p1.toNatClampNeg = 0) (-1 : Int32).toInt) ∧ (¬ (¬ st.toInt = 0 ∧ 0 ≤ p1.toInt ∧ p1.toInt < ln.toInt * wd.toInt) → (-1 : Int32).toInt = -1); first
           | exact ⟨fun h => absurd h.1 (hw_4.f c_7), fun _ => by decide⟩
           | exact ⟨fun h => by exfalso; omega, fun _ => by decide⟩
           | exact ⟨fun _ => by rcases hv with ⟨h1, h2⟩ | ⟨h1, h2⟩; exact Or.inl ⟨h2, by omega⟩; exact Or.inr ⟨fun h => h h2, by omega⟩, fun h => absurd ⟨hst0, by omega, by omega⟩ h⟩)
    · have d_11 := c_11
      simp only [kt_lt, kt_le, kt_eq, kt_c0, kt_c1, kt_c2, kt_c3, kt_c4, kt_c8, kt_c9, kt_cm1, kt_c81, kt_c40, kt_c7, kt_c5, kt_c6, kt_c512, kt_c10, kt_c10000] at d_11
      refine lv_iload_n hx hb dX10_field_14 rfl (lv_at hl 1 rfl) ?_
      refine lv_aload_n hx hb dX10_field_15 rfl (lv_at hl 0 rfl) ?_
      refine va_get (D := D) (ci := 10) (C := RX10) (T := TX10) (N := 6) hx hb hts iw_X10_field_X10 hown hK hP 0 rfl rfl 0 (by decide) (hts (.fieldLink RX10 10 "KingTable" "told" "LKingTable$Told;") (List.mem_cons_of_mem _ (List.mem_append_left _ (List.mem_append_left _ (List.mem_append_left _ (List.mem_append_left _ (List.mem_append_left _ (List.mem_cons_of_mem _ (List.Mem.head _))))))))) (fun _ h9 => h9) rfl dX10_field_16 ?_
      refine kt_pi (wc := [(to, .inr (9, [.ref sg, .int ln, .int wd]))]) [2] hP hD hS hA rfl (by decide) (fun hPc hDc => va_runV (As := []) (rest := [.int p1]) ⟨hx, hb, hml, hown, hts⟩ (c_X9_size l D cI cZ cB H.size to sg ln wd (by first | assumption | omega | rfl | decide) (by first | assumption | omega | rfl | decide)) (cwV 0 hts gX10_field_X9_size rfl rfl rfl (by decide +kernel) ⟨Nat.le_of_ble_eq_true rfl, Nat.le_of_ble_eq_true rfl⟩) (kt_preV hN hK hPc hDc 0 (ci := 9) (q := (RX9, TX9, 3)) rfl rfl) rfl rfl hl.1 rfl (lv_room (Nat.le_of_ble_eq_true rfl)) dX10_field_19 ⟨Nat.le_of_ble_eq_true rfl, Nat.le_of_ble_eq_true rfl⟩) (fun r_19 _ H locs hw_19 hP hS => ?_)
      refine lv_icmp_lt (tgt := 27) hx hb dX10_field_22 (by decide) (fun c_22 => ?_) (fun c_22 => ?_)
      · have d_22 := c_22
        simp only [kt_lt, kt_le, kt_eq, kt_c0, kt_c1, kt_c2, kt_c3, kt_c4, kt_c8, kt_c9, kt_cm1, kt_c81, kt_c40, kt_c7, kt_c5, kt_c6, kt_c512, kt_c10, kt_c10000] at d_22
        have hst0 := hw_4.t c_7
        refine lv_aload_n hx hb dX10_field_27 rfl (lv_at hl 0 rfl) ?_
        refine va_get (D := D) (ci := 10) (C := RX10) (T := TX10) (N := 6) hx hb hts iw_X10_field_X10 hown hK hP 0 rfl rfl 2 (by decide) (hts (.fieldLink RX10 28 "KingTable" "rules" "LKingTable$Rules;") (List.mem_cons_of_mem _ (List.mem_append_left _ (List.mem_append_left _ (List.mem_append_left _ (List.mem_append_left _ (List.mem_append_left _ (List.mem_cons_of_mem _ (List.mem_cons_of_mem _ (List.Mem.head _)))))))))) (fun _ h9 => h9) rfl dX10_field_28 ?_
        refine va_getN (D := D) (ci := 6) (C := RX6) (T := TX6) (N := 9) hx hb hts iw_X10_field_X6 hown hK hP 3 rfl rfl 1 (by decide) (va_Nw.use (w := .fieldLinkNest RX10 159 "KingTable$Rules" "ground" "LKingTable$Ground;" "KingTable") rfl (hN _ (by decide +kernel))) (fun _ h9 => h9) rfl dX10_field_31 ?_
        refine va_getN (D := D) (ci := 0) (C := RX0) (T := TX0) (N := 5) hx hb hts iw_X10_field_X0 hown hK hP 4 rfl rfl 0 (by decide) (va_Nw.use (w := .fieldLinkNest RX10 163 "KingTable$Ground" "types" "[I" "KingTable") rfl (hN _ (by decide +kernel))) (fun _ h9 => h9) rfl dX10_field_34 ?_
        refine lv_iload_n hx hb dX10_field_37 rfl (lv_at hl 1 rfl) ?_
        have hi_1 : vp_in p1 81 := by exact kt_in (by omega) (by omega)
        refine va_iald hx hb hK hP 5 0 rfl rfl hi_1 dX10_field_38 ?_
        refine lv_topi (fun a_38 ea_38 => ?_)
        have ra_38 := hgt.get hi_1
        rw [← ea_38] at ra_38
        refine lv_aload_n hx hb dX10_field_39 rfl (lv_at hl 0 rfl) ?_
        refine va_get (D := D) (ci := 10) (C := RX10) (T := TX10) (N := 6) hx hb hts iw_X10_field_X10 hown hK hP 0 rfl rfl 2 (by decide) (hts (.fieldLink RX10 28 "KingTable" "rules" "LKingTable$Rules;") (List.mem_cons_of_mem _ (List.mem_append_left _ (List.mem_append_left _ (List.mem_append_left _ (List.mem_append_left _ (List.mem_append_left _ (List.mem_cons_of_mem _ (List.mem_cons_of_mem _ (List.Mem.head _)))))))))) (fun _ h9 => h9) rfl dX10_field_40 ?_
        refine va_getN (D := D) (ci := 6) (C := RX6) (T := TX6) (N := 9) hx hb hts iw_X10_field_X6 hown hK hP 3 rfl rfl 1 (by decide) (va_Nw.use (w := .fieldLinkNest RX10 159 "KingTable$Rules" "ground" "LKingTable$Ground;" "KingTable") rfl (hN _ (by decide +kernel))) (fun _ h9 => h9) rfl dX10_field_43 ?_
        refine va_getN (D := D) (ci := 0) (C := RX0) (T := TX0) (N := 5) hx hb hts iw_X10_field_X0 hown hK hP 4 rfl rfl 1 (by decide) (va_Nw.use (w := .fieldLinkNest RX10 168 "KingTable$Ground" "goals" "[Z" "KingTable") rfl (hN _ (by decide +kernel))) (fun _ h9 => h9) rfl dX10_field_46 ?_
        refine lv_iload_n hx hb dX10_field_49 rfl (lv_at hl 1 rfl) ?_
        have hi_2 : vp_in p1 81 := by exact kt_in (by omega) (by omega)
        refine va_zald hx hb hK hP 6 1 rfl rfl hi_2 dX10_field_50 ?_
        refine lv_topi (fun a_50 ea_50 => ?_)
        have ra_50 := hgg.get hi_2
        rw [← ea_50] at ra_50
        refine kt_join (σ := Int32) 59 2 (fun u => [(kt, .inr (10, [.ref to, .ref la, .ref ru, .ref pl, .ref ho, .ref so])), (pl, .inr (4, [.ref la, .ref ru, .ref nw, .ref lo, .int st])), (to, .inr (9, [.ref sg, .int ln, .int wd])), (ru, .inr (6, [.ref la, .ref gr, .ref rk, .ref rs, .ref rt, .int tt, .int kg, .ref rv, .int vc])), (gr, .inr (0, [.ref gt, .ref gg, .ref gn, .int gs, .int gm])), (gt, .inl (cI, 81, .inl tg)), (gg, .inl (cZ, 81, .inl gl))]) (fun u => [(0, .ref kt), (1, .int p1)]) (fun u => [.int u, .int a_38]) (fun u => (u.toInt = 4 ∧ ¬ gl p1.toNatClampNeg = 0) ∨ (u.toInt = 0 ∧ gl p1.toNatClampNeg = 0)) (D := D) (A := A) (H0 := s.heap) (fun u hI H locs hP hD hS ls hl => ?_) (fun j_59 => ?_)
        · obtain ⟨v, rfl⟩ : ∃ z, z = u := ⟨_, rfl⟩
          have hP : va_P D vwCl [(kt, .inr (10, [.ref to, .ref la, .ref ru, .ref pl, .ref ho, .ref so])), (pl, .inr (4, [.ref la, .ref ru, .ref nw, .ref lo, .int st])), (to, .inr (9, [.ref sg, .int ln, .int wd])), (ru, .inr (6, [.ref la, .ref gr, .ref rk, .ref rs, .ref rt, .int tt, .int kg, .ref rv, .int vc])), (gr, .inr (0, [.ref gt, .ref gg, .ref gn, .int gs, .int gm])), (gt, .inl (cI, 81, .inl tg)), (gg, .inl (cZ, 81, .inl gl))] H := hP
          have hD : va_D A [(kt, .inr (10, [.ref to, .ref la, .ref ru, .ref pl, .ref ho, .ref so])), (pl, .inr (4, [.ref la, .ref ru, .ref nw, .ref lo, .int st])), (to, .inr (9, [.ref sg, .int ln, .int wd])), (ru, .inr (6, [.ref la, .ref gr, .ref rk, .ref rs, .ref rt, .int tt, .int kg, .ref rv, .int vc])), (gr, .inr (0, [.ref gt, .ref gg, .ref gn, .int gs, .int gm])), (gt, .inl (cI, 81, .inl tg)), (gg, .inl (cZ, 81, .inl gl))] := hD
          have hl : lv_has ls 2 [(0, .ref kt), (1, .int p1)] := hl
          have hI : (v.toInt = 4 ∧ ¬ gl p1.toNatClampNeg = 0) ∨ (v.toInt = 0 ∧ gl p1.toNatClampNeg = 0) := hI
          have hv := hI
          have e38 : a_38.toInt = (tg p1.toNatClampNeg).toInt := by rw [ea_38]
          have hv4 : 0 ≤ v.toInt ∧ v.toInt ≤ 4 := by omega
          refine lv_iadd hx hb dX10_field_59 ?_
          refine lv_topi (fun t_59 et_59 => ?_)
          first | have hk_59 := kt_addx et_59 (by first | omega | (simp only [kt_c0, kt_c1, kt_c2, kt_c3, kt_c4, kt_c8, kt_c9, kt_cm1, kt_c81, kt_c40, kt_c7, kt_c5, kt_c6, kt_c512, kt_c10, kt_c10000]; omega)) (by first | omega | (simp only [kt_c0, kt_c1, kt_c2, kt_c3, kt_c4, kt_c8, kt_c9, kt_cm1, kt_c81, kt_c40, kt_c7, kt_c5, kt_c6, kt_c512, kt_c10, kt_c10000]; omega)) | obtain ⟨k_59, hk_59, hm_59, hM_59⟩ := kt_addk et_59
          exact kt_ri () hx hb hr hlk hS dX10_field_60 hP hD (by show ((¬ st.toInt = 0 ∧ 0 ≤ p1.toInt ∧ p1.toInt < ln.toInt * wd.toInt) → kt_fvl (tg p1.toNatClampNeg).toInt (¬ gl p1.toNatClampNeg = 0) t_59.toInt) ∧ (¬ (¬ st.toInt = 0 ∧ 0 ≤ p1.toInt ∧ p1.toInt < ln.toInt * wd.toInt) → t_59.toInt = -1); first
               | exact ⟨fun h => absurd h.1 (hw_4.f c_7), fun _ => by decide⟩
               | exact ⟨fun h => by exfalso; omega, fun _ => by decide⟩
               | exact ⟨fun _ => by rcases hv with ⟨h1, h2⟩ | ⟨h1, h2⟩; exact Or.inl ⟨h2, by omega⟩; exact Or.inr ⟨fun h => h h2, by omega⟩, fun h => absurd ⟨hst0, by omega, by omega⟩ h⟩)
        refine lv_if_eq (tgt := 58) hx hb dX10_field_51 (by decide) (fun c_51 => ?_) (fun c_51 => ?_)
        · have d_51 := c_51
          simp only [kt_lt, kt_le, kt_eq, kt_c0, kt_c1, kt_c2, kt_c3, kt_c4, kt_c8, kt_c9, kt_cm1, kt_c81, kt_c40, kt_c7, kt_c5, kt_c6, kt_c512, kt_c10, kt_c10000] at d_51
          refine lv_iconst (v := 0) hx hb dX10_field_58 (by decide) ?_
          exact j_59 (0 : Int32) (by show ((0 : Int32).toInt = 4 ∧ ¬ gl p1.toNatClampNeg = 0) ∨ ((0 : Int32).toInt = 0 ∧ gl p1.toNatClampNeg = 0); first | exact Or.inl ⟨by decide, fun h => c_51 (ea_50.trans h)⟩ | exact Or.inr ⟨by decide, ea_50.symm.trans c_51⟩) H _ hP hD hS ls (lv_sub hl [0, 1] rfl)
        · have d_51 := c_51
          simp only [kt_lt, kt_le, kt_eq, kt_c0, kt_c1, kt_c2, kt_c3, kt_c4, kt_c8, kt_c9, kt_cm1, kt_c81, kt_c40, kt_c7, kt_c5, kt_c6, kt_c512, kt_c10, kt_c10000] at d_51
          refine lv_iconst (v := 4) hx hb dX10_field_54 (by decide) ?_
          refine lv_goto (tgt := 59) hx hb dX10_field_55 (by decide) ?_
          exact j_59 (4 : Int32) (by show ((4 : Int32).toInt = 4 ∧ ¬ gl p1.toNatClampNeg = 0) ∨ ((4 : Int32).toInt = 0 ∧ gl p1.toNatClampNeg = 0); first | exact Or.inl ⟨by decide, fun h => c_51 (ea_50.trans h)⟩ | exact Or.inr ⟨by decide, ea_50.symm.trans c_51⟩) H _ hP hD hS ls (lv_sub hl [0, 1] rfl)
      · have d_22 := c_22
        simp only [kt_lt, kt_le, kt_eq, kt_c0, kt_c1, kt_c2, kt_c3, kt_c4, kt_c8, kt_c9, kt_cm1, kt_c81, kt_c40, kt_c7, kt_c5, kt_c6, kt_c512, kt_c10, kt_c10000] at d_22
        refine lv_iconst (v := (-1)) hx hb dX10_field_25 (by decide) ?_
        exact kt_ri () hx hb hr hlk hS dX10_field_26 hP hD (by show ((¬ st.toInt = 0 ∧ 0 ≤ p1.toInt ∧ p1.toInt < ln.toInt * wd.toInt) → kt_fvl (tg p1.toNatClampNeg).toInt (¬ gl p1.toNatClampNeg = 0) (-1 : Int32).toInt) ∧ (¬ (¬ st.toInt = 0 ∧ 0 ≤ p1.toInt ∧ p1.toInt < ln.toInt * wd.toInt) → (-1 : Int32).toInt = -1); first
             | exact ⟨fun h => absurd h.1 (hw_4.f c_7), fun _ => by decide⟩
             | exact ⟨fun h => by exfalso; omega, fun _ => by decide⟩
             | exact ⟨fun _ => by rcases hv with ⟨h1, h2⟩ | ⟨h1, h2⟩; exact Or.inl ⟨h2, by omega⟩; exact Or.inr ⟨fun h => h h2, by omega⟩, fun h => absurd ⟨hst0, by omega, by omega⟩ h⟩)
