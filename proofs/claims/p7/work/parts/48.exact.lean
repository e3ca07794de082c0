/-! ===== the rules as functions of where the pieces are ===== -/
def kt_side (k : Int32) : Int := if 2 < k.toInt then 1 else 0
def kt_tks (mkt k : Int32) : Prop := ¬ k = 2 ∨ ¬ mkt = 0
def kt_stp (w a : Int) : Int := if a = 0 then -w else if a = 1 then 1 else if a = 2 then w else -1
theorem kt_stp_c (w a n : Int) : (a = 0 → n * kt_stp w a = -(n * w)) ∧ (a = 1 → n * kt_stp w a = n) ∧ (a = 2 → n * kt_stp w a = n * w) ∧ (a ≠ 0 → a ≠ 1 → a ≠ 2 → n * kt_stp w a = -n) := by
  unfold kt_stp
  refine ⟨fun h => ?_, fun h => ?_, fun h => ?_, fun h1 h2 h3 => ?_⟩
  · rw [if_pos h, Int.mul_neg]
  · rw [if_neg (by omega), if_pos h, Int.mul_one]
  · rw [if_neg (by omega), if_neg (by omega), if_pos h]
  · rw [if_neg h1, if_neg h2, if_neg h3, Int.mul_neg, Int.mul_one]
/-- n fields a way from a field; -1 beyond the board -/
def kt_al (f w L a n : Int) : Int := if n ≤ kt_rom f w L a then f + n * kt_stp w a else -1
theorem kt_al_c (f w L a n : Int) : (n ≤ kt_rom f w L a → kt_al f w L a n = f + n * kt_stp w a) ∧ (¬ n ≤ kt_rom f w L a → kt_al f w L a n = -1) := by
  unfold kt_al
  exact ⟨fun h => if_pos h, fun h => if_neg h⟩
theorem kt_al_r {f w L a n : Int} (hw : 2 ≤ w ∧ w ≤ 9) (hL : 2 ≤ L ∧ L ≤ 9) (hf : 0 ≤ f ∧ f < L * w) (hn : 1 ≤ n) : (kt_al f w L a n = -1 ∧ ¬ n ≤ kt_rom f w L a) ∨ (n ≤ kt_rom f w L a ∧ 0 ≤ kt_al f w L a n ∧ kt_al f w L a n < L * w ∧ kt_al f w L a n ≤ 80 ∧ ¬ kt_al f w L a n = f) := by
  obtain ⟨h1, h2⟩ := kt_al_c f w L a n
  obtain ⟨s0, s1, s2, s3⟩ := kt_stp_c w a n
  obtain ⟨r0, r1, r2, r3⟩ := kt_rom_c f w L a
  obtain ⟨a1, a2, a3, a4, b1, b2, b3, b4, b5, b6⟩ := kt_alng hw hL hf hn
  by_cases hc : n ≤ kt_rom f w L a
  · have e := h1 hc
    refine Or.inr ⟨hc, ?_⟩
    by_cases c0 : a = 0
    · have := r0 c0; have := s0 c0; have := a1 (by omega)
      have hp : 1 ≤ n * w := kt_mulp hn (by omega)
      omega
    · by_cases c1 : a = 1
      · have := r1 c1; have := s1 c1; have := a2 (by omega); omega
      · by_cases c2 : a = 2
        · have := r2 c2; have := s2 c2; have := a3 (by omega)
          have hp : 1 ≤ n * w := kt_mulp hn (by omega)
          omega
        · have := r3 c0 c1 c2; have := s3 c0 c1 c2; have := a4 (by omega); omega
  · exact Or.inl ⟨h2 hc, hc⟩
/-- the fields beside one are four -/
theorem kt_al_inj {f w L : Int} {a b : Nat} (hw : 2 ≤ w) (ha : a < 4) (hb : b < 4) (h : kt_al f w L a 1 = kt_al f w L b 1) (hne : ¬ kt_al f w L a 1 = -1) : a = b := by
  have hx := kt_al_c f w L a 1
  have hy := kt_al_c f w L b 1
  have sx := kt_stp_c w a 1
  have sy := kt_stp_c w b 1
  have hx1 : kt_al f w L a 1 = f + 1 * kt_stp w a := by
    by_cases c : 1 ≤ kt_rom f w L a
    · exact hx.1 c
    · exact absurd (hx.2 c) hne
  have hy1 : kt_al f w L b 1 = f + 1 * kt_stp w b := by
    by_cases c : 1 ≤ kt_rom f w L b
    · exact hy.1 c
    · exact absurd (h.trans (hy.2 c)) hne
  omega
def kt_cut (P : Nat) (A : Nat → Int32) : Nat → Int32 := fun j => if j < P then A j else -1
theorem kt_cut_in {P : Nat} {A : Nat → Int32} {j : Nat} (h : j < P) : kt_cut P A j = A j := if_pos h
theorem kt_cut_eq {P : Nat} {A B : Nat → Int32} (h : ∀ j, j < P → A j = B j) : kt_cut P A = kt_cut P B := by
  funext j
  unfold kt_cut
  by_cases e : j < P
  · rw [if_pos e, if_pos e]; exact h j e
  · rw [if_neg e, if_neg e]
/-- a piece that is on a field is who stands there -/
def kt_coc (fo fa : Nat → Int32) (n : Nat) : Prop := ∀ q : Nat, q < n → ∀ f : Nat, f < 81 → fa q = nI f → fo f = nI q
theorem kt_coc.add {h g : Nat → Int32} {k F : Nat} (hc : kt_coc h g k) (hF : F < 81) (hfree : ∀ q, q < k → ¬ g q = nI F) : kt_coc (upd h F (nI k)) (upd g k (nI F)) (k + 1) := by
  intro q hq f hf hg
  by_cases e : q = k
  · subst e
    rw [pk_us] at hg
    have := kt_nIinj (by omega) (by omega) hg
    subst this
    exact pk_us
  · rw [pk_un e] at hg
    have hne : f ≠ F := fun e2 => hfree q (by omega) (by rw [hg, e2])
    rw [pk_un hne]
    exact hc q (by omega) f hf hg
theorem kt_coc.skip {h g : Nat → Int32} {k : Nat} {x : Int32} (hc : kt_coc h g k) (hx : x.toInt < 0) : kt_coc h (upd g k x) (k + 1) := by
  intro q hq f hf hg
  by_cases e : q = k
  · subst e
    rw [pk_us] at hg
    rw [hg, kt_nI (by omega)] at hx
    omega
  · rw [pk_un e] at hg
    exact hc q (by omega) f hf hg
theorem kt_coc.move {fo fa : Nat → Int32} {P p a t : Nat} (hP : P ≤ 40) (hc : kt_coc fo fa P) (hp : p < P) (ha : fa p = nI a) (h81 : a < 81) (ht : t < 81) (hfree : ∀ q, q < P → ¬ fa q = nI t) : kt_coc (upd (upd fo a (-1)) t (nI p)) (upd fa p (nI t)) P := by
  intro q hq f hf hg
  by_cases e : q = p
  · subst e
    rw [pk_us] at hg
    have := kt_nIinj (by omega) (by omega) hg
    subst this
    exact pk_us
  · rw [pk_un e] at hg
    have hne : f ≠ t := fun e2 => hfree q hq (by rw [hg, e2])
    have hna : f ≠ a := fun e2 => by
      have h1 := hc q hq f hf hg
      have h2 := hc p hp a h81 ha
      rw [e2, h2] at h1
      exact e (kt_nIinj (by omega) (by omega) h1).symm
    rw [pk_un hne, pk_un hna]
    exact hc q hq f hf hg
theorem kt_coc.drop {fo fa : Nat → Int32} {P k a : Nat} {x : Int32} (hP : P ≤ 40) (hk : k < P) (hc : kt_coc fo fa P) (ha : fa k = nI a) (h81 : a < 81) (hx : x.toInt < 0) : kt_coc (upd fo a (-1)) (upd fa k x) P := by
  intro q hq f hf hg
  by_cases e : q = k
  · subst e
    rw [pk_us] at hg
    rw [hg, kt_nI (by omega)] at hx
    omega
  · rw [pk_un e] at hg
    have hna : f ≠ a := fun e2 => by
      have h1 := hc q hq f hf hg
      have h2 := hc k hk a h81 ha
      rw [e2, h2] at h1
      exact e (kt_nIinj (by omega) (by omega) h1).symm
    rw [pk_un hna]
    exact hc q hq f hf hg
theorem kt_coc.empty {fo fa : Nat → Int32} {P t : Nat} (hc : kt_coc fo fa P) (hP : P ≤ 40) (ht : t < 81) (h : fo t = -1) : ∀ q, q < P → ¬ fa q = nI t := by
  intro q hq hg
  have h1 := hc q hq t ht hg
  rw [h] at h1
  exact kt_nIm1 (by omega) h1.symm
/-- who stands on a field, by where the pieces are -/
def kt_who (A : Nat → Int32) : Nat → Nat → Int32
  | 0, _ => -1
  | n + 1, f => if A n = nI f then nI n else kt_who A n f
theorem kt_who_cong {A B : Nat → Int32} {f : Nat} : ∀ {n : Nat}, (∀ j, j < n → A j = B j) → kt_who A n f = kt_who B n f
  | 0, _ => rfl
  | n + 1, h => by
    show (if A n = nI f then nI n else kt_who A n f) = (if B n = nI f then nI n else kt_who B n f)
    rw [h n (by omega), kt_who_cong (fun j hj => h j (by omega))]
theorem kt_who_no {A : Nat → Int32} {f : Nat} : ∀ {n : Nat}, (∀ j, j < n → ¬ A j = nI f) → kt_who A n f = -1
  | 0, _ => rfl
  | n + 1, h => by
    show (if A n = nI f then nI n else kt_who A n f) = -1
    rw [if_neg (h n (by omega)), kt_who_no (fun j hj => h j (by omega))]
theorem kt_who_yes {A : Nat → Int32} {f q : Nat} : ∀ {n : Nat}, q < n → A q = nI f → (∀ j, j < n → A j = nI f → j = q) → kt_who A n f = nI q
  | 0, h, _, _ => absurd h (Nat.not_lt_zero q)
  | n + 1, h, h1, h2 => by
    show (if A n = nI f then nI n else kt_who A n f) = nI q
    by_cases e : n = q
    · subst e; rw [if_pos h1]
    · rw [if_neg (fun h3 => e (h2 n (by omega) h3)), kt_who_yes (by omega) h1 (fun j hj => h2 j (by omega))]
theorem kt_who_of {fo fa : Nat → Int32} {P : Nat} (hc : kt_con fo fa P) (hk : kt_coc fo fa P) (hP : P ≤ 40) {f : Nat} (hf : f < 81) : fo f = kt_who fa P f := by
  by_cases e : fo f = -1
  · rw [e]
    exact (kt_who_no (hk.empty hP hf e)).symm
  · obtain ⟨q, hq, h1, h2⟩ := hc f hf e
    rw [h1]
    refine (kt_who_yes hq h2 (fun j hj h => ?_)).symm
    have h3 := hk j hj f hf h
    rw [h1] at h3
    exact (kt_nIinj (by omega) (by omega) h3).symm
/-- a foe of piece p on a field -/
def kt_foe (fo fr fk : Nat → Int32) (mkt : Int32) (p : Nat) (f : Int) : Prop := ¬ f = -1 ∧ ((fo f.toNat = -1 ∧ fr f.toNat = 6) ∨ (¬ fo f.toNat = -1 ∧ ¬ kt_side (fk (fo f.toNat).toNatClampNeg) = kt_side (fk p) ∧ kt_tks mkt (fk (fo f.toNat).toNatClampNeg)))
def kt_cap (fk : Nat → Int32) (mhd : Int32) (p : Nat) : Prop := fk p = 4 ∨ (fk p = 2 ∧ mhd = 4)
/-- piece p, on field x, is taken by one that came a way to its side -/
def kt_tkn (fo fr fk : Nat → Int32) (mkt mhd : Int32) (w L : Int) (p : Nat) (x a : Int) : Prop := (¬ kt_cap fk mhd p ∧ kt_foe fo fr fk mkt p (kt_al x w L a 1)) ∨ (kt_cap fk mhd p ∧ ∀ b : Nat, b < 4 → kt_foe fo fr fk mkt p (kt_al x w L b 1))
/-- piece j stands a way beside the field t, to which p went, and is taken -/
def kt_vic (fo fr fk : Nat → Int32) (mkt mhd : Int32) (w L : Int) (p : Nat) (t : Int) (a j : Nat) : Prop := ¬ kt_al t w L a 1 = -1 ∧ fo (kt_al t w L a 1).toNat = nI j ∧ ¬ kt_side (fk j) = kt_side (fk p) ∧ kt_tkn fo fr fk mkt mhd w L j (kt_al t w L a 1) a
theorem kt_B.iff {r : Int32} {A B : Prop} (h : kt_B r A) (i : A ↔ B) : kt_B r B := by
  rcases h with ⟨h1, h2⟩ | ⟨h1, h2⟩
  · exact Or.inl ⟨h1, i.mp h2⟩
  · exact Or.inr ⟨h1, fun h => h2 (i.mpr h)⟩
theorem kt_foe_cong {fo fo' fr fk : Nat → Int32} {mkt : Int32} {p : Nat} {f : Int} (h : ¬ f = -1 → fo f.toNat = fo' f.toNat) : kt_foe fo fr fk mkt p f ↔ kt_foe fo' fr fk mkt p f := by
  unfold kt_foe
  by_cases e : f = -1
  · exact ⟨fun h1 => absurd e h1.1, fun h1 => absurd e h1.1⟩
  · rw [h e]
theorem kt_vic_cong {fo fo' fr fk : Nat → Int32} {mkt mhd : Int32} {w L t : Int} {p a j : Nat} (hw : 2 ≤ w ∧ w ≤ 9) (hL : 2 ≤ L ∧ L ≤ 9) (ht : 0 ≤ t ∧ t < L * w) (h : ∀ f, f < 81 → fo f = fo' f) : kt_vic fo fr fk mkt mhd w L p t a j ↔ kt_vic fo' fr fk mkt mhd w L p t a j := by
  unfold kt_vic
  rcases kt_al_r (a := (a : Int)) (n := 1) hw hL ht (by omega) with h1 | h1
  · exact ⟨fun h2 => absurd h1.1 h2.1, fun h2 => absurd h1.1 h2.1⟩
  · have hF : ∀ b : Int, kt_foe fo fr fk mkt j (kt_al (kt_al t w L a 1) w L b 1) ↔ kt_foe fo' fr fk mkt j (kt_al (kt_al t w L a 1) w L b 1) := fun b => kt_foe_cong (fun hne => by
      rcases kt_al_r (a := b) (n := 1) hw hL (show 0 ≤ kt_al t w L a 1 ∧ kt_al t w L a 1 < L * w by omega) (by omega) with h2 | h2
      · exact absurd h2.1 hne
      · exact h _ (by omega))
    rw [h _ (show (kt_al t w L a 1).toNat < 81 by omega)]
    unfold kt_tkn
    rw [hF]
    have hG : (∀ b : Nat, b < 4 → kt_foe fo fr fk mkt j (kt_al (kt_al t w L a 1) w L b 1)) ↔ (∀ b : Nat, b < 4 → kt_foe fo' fr fk mkt j (kt_al (kt_al t w L a 1) w L b 1)) := ⟨fun h2 b hb => (hF b).mp (h2 b hb), fun h2 b hb => (hF b).mpr (h2 b hb)⟩
    rw [hG]
noncomputable def kt_mk (P : Nat) (w L : Int) (fr fk : Nat → Int32) (mkt mhd : Int32) (A : Nat → Int32) (p : Nat) (a n : Int) : Nat → Int32 := fun j => if j < P then (@ite Int32 (kt_tks mkt (fk p) ∧ ∃ b : Nat, b < 4 ∧ kt_vic (kt_who (upd A p (nI (kt_al (A p).toInt w L a n).toNat)) P) fr fk mkt mhd w L p (kt_al (A p).toInt w L a n) b j) (Classical.propDecidable _) (-1) (upd A p (nI (kt_al (A p).toInt w L a n).toNat) j)) else -1
theorem kt_mk_of {P : Nat} {w L t : Int} {fr fk fa b1 b2 y g : Nat → Int32} {mkt mhd : Int32} {p : Nat} {a n : Int} (hP : P ≤ 40) (hw : 2 ≤ w ∧ w ≤ 9) (hL : 2 ≤ L ∧ L ≤ 9) (hp : p < P) (ht : t = kt_al (fa p).toInt w L a n) (htr : 0 ≤ t ∧ t < L * w) (hb1 : b1 = upd fa p (nI t.toNat)) (hcon : kt_con b2 b1 P) (hcoc : kt_coc b2 b1 P)
    (hy : ∀ j, j < P → (¬ y j = 0 ↔ kt_tks mkt (fk p) ∧ ∃ b : Nat, b < 4 ∧ kt_vic b2 fr fk mkt mhd w L p t b j)) (hg : ∀ j, j < P → g j = if y j = 0 then b1 j else -1) : kt_cut P g = kt_mk P w L fr fk mkt mhd (kt_cut P fa) p a n := by
  have hap : kt_cut P fa p = fa p := kt_cut_in hp
  have hup : ∀ j, j < P → upd (kt_cut P fa) p (nI t.toNat) j = b1 j := by
    intro j hj
    rw [hb1]
    by_cases e : j = p
    · rw [e, pk_us, pk_us]
    · rw [pk_un e, pk_un e]; exact kt_cut_in hj
  have hwh : ∀ f, f < 81 → b2 f = kt_who (upd (kt_cut P fa) p (nI t.toNat)) P f := fun f hf => (kt_who_of hcon hcoc hP hf).trans (kt_who_cong (fun j hj => (hup j hj).symm))
  funext j
  unfold kt_mk
  by_cases e : j < P
  · rw [if_pos e, kt_cut_in e, hap, ← ht]
    have hV : (kt_tks mkt (fk p) ∧ ∃ b : Nat, b < 4 ∧ kt_vic b2 fr fk mkt mhd w L p t b j) ↔ (kt_tks mkt (fk p) ∧ ∃ b : Nat, b < 4 ∧ kt_vic (kt_who (upd (kt_cut P fa) p (nI t.toNat)) P) fr fk mkt mhd w L p t b j) := by
      refine ⟨fun h => ⟨h.1, ?_⟩, fun h => ⟨h.1, ?_⟩⟩
      · obtain ⟨b, hb, hv⟩ := h.2
        exact ⟨b, hb, (kt_vic_cong hw hL htr hwh).mp hv⟩
      · obtain ⟨b, hb, hv⟩ := h.2
        exact ⟨b, hb, (kt_vic_cong hw hL htr hwh).mpr hv⟩
    rw [hg j e]
    by_cases ey : y j = 0
    · rw [if_pos ey, if_neg (fun h => ((hy j e).mpr (hV.mpr h)) ey)]
      exact (hup j e).symm
    · rw [if_neg ey, if_pos (hV.mp ((hy j e).mp ey))]
  · rw [if_neg e]
    exact if_neg e

set_option maxHeartbeats 4000000 in
set_option maxRecDepth 100000 in
theorem c_X11_sideOfE (l : Launch) (D : va_G) (cI cZ cB : ClassId) (sz : Nat) (mx : Nat) (ms : Nat) (mk : Nat) (ma : Nat) (mo : Nat) (mg : Nat) (mm : Nat) (mt : Nat) (mn : Nat) (me : Nat) (mq : Nat) (mwo : Nat) (md : Nat) (mf : Nat) (mr : Nat) (ml : Int32) (mw : Int32) (mgl : Int32) (mhd : Int32) (mre : Int32) (mag : Int32) (mkt : Int32) (mho : Int32) (mpc : Int32) (msd : Int32) (mki : Int32) (mdn : Int32) (mun : Int32) (mtk : Int32) (msv : Int32) (fk : Nat → Int32) (p1 : Int32) (hp1 : 0 ≤ p1.toInt ∧ p1.toInt ≤ 39) : kt_Mi l yX11_sideOf wsX11_sideOf { frames := 0, cells := 0, slots := 0, locals := 0 } D (kt_ty cI cZ cB) [.ref mx, .int p1] sz [(mx, .inr (11, [.int ml, .int mw, .ref ms, .int mgl, .int mhd, .int mre, .int mag, .int mkt, .int mho, .int mpc, .int msd, .int mki, .ref mk, .ref ma, .ref mo, .ref mg, .ref mm, .ref mt, .int mdn, .int mun, .ref mn, .int mtk, .ref me, .ref mq, .int msv, .ref mwo, .ref md, .ref mf, .ref mr])), (mk, .inl (cI, 40, .inl fk))] (fun (r : Int32) (u : Unit) => r.toInt = kt_side (fk p1.toNatClampNeg) ∧ 0 ≤ r.toInt ∧ r.toInt ≤ 1) (fun (u : Unit) => [(mx, .inr (11, [.int ml, .int mw, .ref ms, .int mgl, .int mhd, .int mre, .int mag, .int mkt, .int mho, .int mpc, .int msd, .int mki, .ref mk, .ref ma, .ref mo, .ref mg, .ref mm, .ref mt, .int mdn, .int mun, .ref mn, .int mtk, .ref me, .ref mq, .int msv, .ref mwo, .ref md, .ref mf, .ref mr])), (mk, .inl (cI, 40, .inl fk))]) 0 0 := by
  refine kt_Mi.of (cc := cX11_sideOf) (maxL := 2) (ret := some .int) (by decide) rfl (Nat.le_of_ble_eq_true rfl) ?_
  intro p e s m below meth c A ls H hAt hP hD hS hl
  obtain ⟨hx, hb, hr, hml, hown, hts, hN, hK, hlk, hnm, hA⟩ := hAt
  have hl : lv_has ls 2 [(0, .ref mx), (1, .int p1)] := hl
  have hown : s.vm.findClass RX11 = some m.cls := hown
  refine lv_aload_n hx hb dX11_sideOf_0 rfl (lv_at hl 0 rfl) ?_
  refine va_get (D := D) (ci := 11) (C := RX11) (T := TX11) (N := 29) hx hb hts iw_X11_sideOf_X11 hown hK hP 0 rfl rfl 12 (by decide) (hts (.fieldLink RX11 27 "KingTableModel" "kind" "[I") (List.mem_cons_of_mem _ (List.mem_append_left _ (List.Mem.head _)))) (fun _ h9 => h9) rfl dX11_sideOf_1 ?_
  refine lv_iload_n hx hb dX11_sideOf_4 rfl (lv_at hl 1 rfl) ?_
  have hi_1 : vp_in p1 40 := by exact kt_in (by omega) (by omega)
  refine va_iald hx hb hK hP 1 0 rfl rfl hi_1 dX11_sideOf_5 ?_
  refine lv_topi (fun a_5 ea_5 => ?_)
  refine lv_iconst (v := 2) hx hb dX11_sideOf_6 (by decide) ?_
  refine lv_icmp_le (tgt := 14) hx hb dX11_sideOf_7 (by decide) (fun c_7 => ?_) (fun c_7 => ?_)
  · have d_7 := c_7
    simp only [kt_lt, kt_le, kt_eq, kt_c0, kt_c1, kt_c2, kt_c3, kt_c4, kt_c8, kt_c9, kt_cm1, kt_c81, kt_c40, kt_c7, kt_c5, kt_c6, kt_c512, kt_c10, kt_c10000] at d_7
    refine lv_iconst (v := 0) hx hb dX11_sideOf_14 (by decide) ?_
    exact kt_ri () hx hb hr hlk hS dX11_sideOf_15 hP hD (by show (0 : Int32).toInt = kt_side (fk p1.toNatClampNeg) ∧ 0 ≤ (0 : Int32).toInt ∧ (0 : Int32).toInt ≤ 1; unfold kt_side; rw [← ea_5]; first | (rw [if_pos (by omega)]; decide) | (rw [if_neg (by omega)]; decide))
  · have d_7 := c_7
    simp only [kt_lt, kt_le, kt_eq, kt_c0, kt_c1, kt_c2, kt_c3, kt_c4, kt_c8, kt_c9, kt_cm1, kt_c81, kt_c40, kt_c7, kt_c5, kt_c6, kt_c512, kt_c10, kt_c10000] at d_7
    refine lv_iconst (v := 1) hx hb dX11_sideOf_10 (by decide) ?_
    refine lv_goto (tgt := 15) hx hb dX11_sideOf_11 (by decide) ?_
    exact kt_ri () hx hb hr hlk hS dX11_sideOf_15 hP hD (by show (1 : Int32).toInt = kt_side (fk p1.toNatClampNeg) ∧ 0 ≤ (1 : Int32).toInt ∧ (1 : Int32).toInt ≤ 1; unfold kt_side; rw [← ea_5]; first | (rw [if_pos (by omega)]; decide) | (rw [if_neg (by omega)]; decide))

set_option maxHeartbeats 4000000 in
set_option maxRecDepth 100000 in
theorem c_X11_takesE (l : Launch) (D : va_G) (cI cZ cB : ClassId) (sz : Nat) (mx : Nat) (ms : Nat) (mk : Nat) (ma : Nat) (mo : Nat) (mg : Nat) (mm : Nat) (mt : Nat) (mn : Nat) (me : Nat) (mq : Nat) (mwo : Nat) (md : Nat) (mf : Nat) (mr : Nat) (ml : Int32) (mw : Int32) (mgl : Int32) (mhd : Int32) (mre : Int32) (mag : Int32) (mkt : Int32) (mho : Int32) (mpc : Int32) (msd : Int32) (mki : Int32) (mdn : Int32) (mun : Int32) (mtk : Int32) (msv : Int32) (fk : Nat → Int32) (p1 : Int32) (hp1 : 0 ≤ p1.toInt ∧ p1.toInt ≤ 39) : kt_Mi l yX11_takes wsX11_takes { frames := 0, cells := 0, slots := 0, locals := 0 } D (kt_ty cI cZ cB) [.ref mx, .int p1] sz [(mx, .inr (11, [.int ml, .int mw, .ref ms, .int mgl, .int mhd, .int mre, .int mag, .int mkt, .int mho, .int mpc, .int msd, .int mki, .ref mk, .ref ma, .ref mo, .ref mg, .ref mm, .ref mt, .int mdn, .int mun, .ref mn, .int mtk, .ref me, .ref mq, .int msv, .ref mwo, .ref md, .ref mf, .ref mr])), (mk, .inl (cI, 40, .inl fk))] (fun (r : Int32) (u : Unit) => kt_B r (kt_tks mkt (fk p1.toNatClampNeg))) (fun (u : Unit) => [(mx, .inr (11, [.int ml, .int mw, .ref ms, .int mgl, .int mhd, .int mre, .int mag, .int mkt, .int mho, .int mpc, .int msd, .int mki, .ref mk, .ref ma, .ref mo, .ref mg, .ref mm, .ref mt, .int mdn, .int mun, .ref mn, .int mtk, .ref me, .ref mq, .int msv, .ref mwo, .ref md, .ref mf, .ref mr])), (mk, .inl (cI, 40, .inl fk))]) 0 0 := by
  refine kt_Mi.of (cc := cX11_takes) (maxL := 2) (ret := some .boolean) (by decide) rfl (Nat.le_of_ble_eq_true rfl) ?_
  intro p e s m below meth c A ls H hAt hP hD hS hl
  obtain ⟨hx, hb, hr, hml, hown, hts, hN, hK, hlk, hnm, hA⟩ := hAt
  have hl : lv_has ls 2 [(0, .ref mx), (1, .int p1)] := hl
  have hown : s.vm.findClass RX11 = some m.cls := hown
  refine lv_aload_n hx hb dX11_takes_0 rfl (lv_at hl 0 rfl) ?_
  refine va_get (D := D) (ci := 11) (C := RX11) (T := TX11) (N := 29) hx hb hts iw_X11_takes_X11 hown hK hP 0 rfl rfl 12 (by decide) (hts (.fieldLink RX11 27 "KingTableModel" "kind" "[I") (List.mem_cons_of_mem _ (List.mem_append_left _ (List.Mem.head _)))) (fun _ h9 => h9) rfl dX11_takes_1 ?_
  refine lv_iload_n hx hb dX11_takes_4 rfl (lv_at hl 1 rfl) ?_
  have hi_1 : vp_in p1 40 := by exact kt_in (by omega) (by omega)
  refine va_iald hx hb hK hP 1 0 rfl rfl hi_1 dX11_takes_5 ?_
  refine lv_topi (fun a_5 ea_5 => ?_)
  refine lv_iconst (v := 2) hx hb dX11_takes_6 (by decide) ?_
  refine lv_icmp_ne (tgt := 17) hx hb dX11_takes_7 (by decide) (fun c_7 => ?_) (fun c_7 => ?_)
  · have d_7 := c_7
    simp only [kt_lt, kt_le, kt_eq, kt_c0, kt_c1, kt_c2, kt_c3, kt_c4, kt_c8, kt_c9, kt_cm1, kt_c81, kt_c40, kt_c7, kt_c5, kt_c6, kt_c512, kt_c10, kt_c10000] at d_7
    refine lv_iconst (v := 1) hx hb dX11_takes_17 (by decide) ?_
    refine lv_goto (tgt := 22) hx hb dX11_takes_18 (by decide) ?_
    exact kt_rz () hx hb hr hlk hS dX11_takes_22 hP hD (by show kt_B (1 : Int32) (kt_tks mkt (fk p1.toNatClampNeg)); unfold kt_tks; rw [← ea_5]; first | exact Or.inl ⟨rfl, Or.inl c_7⟩ | exact Or.inl ⟨rfl, Or.inr c_14⟩ | exact Or.inr ⟨rfl, fun h => h.elim (fun h1 => h1 c_7) (fun h2 => h2 c_14)⟩) rfl
  · have d_7 := c_7
    simp only [kt_lt, kt_le, kt_eq, kt_c0, kt_c1, kt_c2, kt_c3, kt_c4, kt_c8, kt_c9, kt_cm1, kt_c81, kt_c40, kt_c7, kt_c5, kt_c6, kt_c512, kt_c10, kt_c10000] at d_7
    refine lv_aload_n hx hb dX11_takes_10 rfl (lv_at hl 0 rfl) ?_
    refine va_get (D := D) (ci := 11) (C := RX11) (T := TX11) (N := 29) hx hb hts iw_X11_takes_X11 hown hK hP 0 rfl rfl 7 (by decide) (hts (.fieldLink RX11 23 "KingTableModel" "kingTakes" "Z") (List.mem_cons_of_mem _ (List.mem_append_left _ (List.mem_cons_of_mem _ (List.Mem.head _))))) (fun _ h9 => h9) rfl dX11_takes_11 ?_
    refine lv_if_eq (tgt := 21) hx hb dX11_takes_14 (by decide) (fun c_14 => ?_) (fun c_14 => ?_)
    · have d_14 := c_14
      simp only [kt_lt, kt_le, kt_eq, kt_c0, kt_c1, kt_c2, kt_c3, kt_c4, kt_c8, kt_c9, kt_cm1, kt_c81, kt_c40, kt_c7, kt_c5, kt_c6, kt_c512, kt_c10, kt_c10000] at d_14
      refine lv_iconst (v := 0) hx hb dX11_takes_21 (by decide) ?_
      exact kt_rz () hx hb hr hlk hS dX11_takes_22 hP hD (by show kt_B (0 : Int32) (kt_tks mkt (fk p1.toNatClampNeg)); unfold kt_tks; rw [← ea_5]; first | exact Or.inl ⟨rfl, Or.inl c_7⟩ | exact Or.inl ⟨rfl, Or.inr c_14⟩ | exact Or.inr ⟨rfl, fun h => h.elim (fun h1 => h1 c_7) (fun h2 => h2 c_14)⟩) rfl
    · have d_14 := c_14
      simp only [kt_lt, kt_le, kt_eq, kt_c0, kt_c1, kt_c2, kt_c3, kt_c4, kt_c8, kt_c9, kt_cm1, kt_c81, kt_c40, kt_c7, kt_c5, kt_c6, kt_c512, kt_c10, kt_c10000] at d_14
      refine lv_iconst (v := 1) hx hb dX11_takes_17 (by decide) ?_
      refine lv_goto (tgt := 22) hx hb dX11_takes_18 (by decide) ?_
      exact kt_rz () hx hb hr hlk hS dX11_takes_22 hP hD (by show kt_B (1 : Int32) (kt_tks mkt (fk p1.toNatClampNeg)); unfold kt_tks; rw [← ea_5]; first | exact Or.inl ⟨rfl, Or.inl c_7⟩ | exact Or.inl ⟨rfl, Or.inr c_14⟩ | exact Or.inr ⟨rfl, fun h => h.elim (fun h1 => h1 c_7) (fun h2 => h2 c_14)⟩) rfl

set_option maxHeartbeats 4000000 in
set_option maxRecDepth 100000 in
theorem c_X11_alongE (l : Launch) (D : va_G) (cI cZ cB : ClassId) (sz : Nat) (mx : Nat) (ms : Nat) (mk : Nat) (ma : Nat) (mo : Nat) (mg : Nat) (mm : Nat) (mt : Nat) (mn : Nat) (me : Nat) (mq : Nat) (mwo : Nat) (md : Nat) (mf : Nat) (mr : Nat) (ml : Int32) (mw : Int32) (mgl : Int32) (mhd : Int32) (mre : Int32) (mag : Int32) (mkt : Int32) (mho : Int32) (mpc : Int32) (msd : Int32) (mki : Int32) (mdn : Int32) (mun : Int32) (mtk : Int32) (msv : Int32) (p1 : Int32) (p2 : Int32) (p3 : Int32) (hml_ : 2 ≤ ml.toInt ∧ ml.toInt ≤ 9) (hmw : 2 ≤ mw.toInt ∧ mw.toInt ≤ 9) (hp1 : 0 ≤ p1.toInt ∧ p1.toInt < ml.toInt * mw.toInt) (hp3 : 1 ≤ p3.toInt) : kt_Mi l yX11_along wsX11_along { frames := 0, cells := 0, slots := 0, locals := 0 } D (kt_ty cI cZ cB) [.ref mx, .int p1, .int p2, .int p3] sz [(mx, .inr (11, [.int ml, .int mw, .ref ms, .int mgl, .int mhd, .int mre, .int mag, .int mkt, .int mho, .int mpc, .int msd, .int mki, .ref mk, .ref ma, .ref mo, .ref mg, .ref mm, .ref mt, .int mdn, .int mun, .ref mn, .int mtk, .ref me, .ref mq, .int msv, .ref mwo, .ref md, .ref mf, .ref mr]))] (fun (r : Int32) (u : Unit) => r.toInt = kt_al p1.toInt mw.toInt ml.toInt p2.toInt p3.toInt) (fun (u : Unit) => [(mx, .inr (11, [.int ml, .int mw, .ref ms, .int mgl, .int mhd, .int mre, .int mag, .int mkt, .int mho, .int mpc, .int msd, .int mki, .ref mk, .ref ma, .ref mo, .ref mg, .ref mm, .ref mt, .int mdn, .int mun, .ref mn, .int mtk, .ref me, .ref mq, .int msv, .ref mwo, .ref md, .ref mf, .ref mr]))]) 0 0 := by
  refine kt_Mi.of (cc := cX11_along) (maxL := 7) (ret := some .int) (by decide) rfl (Nat.le_of_ble_eq_true rfl) ?_
  intro p e s m below meth c A ls H hAt hP hD hS hl
  obtain ⟨hx, hb, hr, hml, hown, hts, hN, hK, hlk, hnm, hA⟩ := hAt
  have hl : lv_has ls 7 [(0, .ref mx), (1, .int p1), (2, .int p2), (3, .int p3)] := hl
  have hown : s.vm.findClass RX11 = some m.cls := hown
  refine lv_iload_n hx hb dX11_along_0 rfl (lv_at hl 1 rfl) ?_
  refine lv_aload_n hx hb dX11_along_1 rfl (lv_at hl 0 rfl) ?_
  refine va_get (D := D) (ci := 11) (C := RX11) (T := TX11) (N := 29) hx hb hts iw_X11_along_X11 hown hK hP 0 rfl rfl 1 (by decide) (hts (.fieldLink RX11 13 "KingTableModel" "wide" "I") (List.mem_cons_of_mem _ (List.mem_append_left _ (List.Mem.head _)))) (fun _ h9 => h9) rfl dX11_along_2 ?_
  refine lv_idiv hx hb dX11_along_5 (by intro h; rw [h] at hmw; exact absurd hmw (by decide)) ?_
  refine lv_topi (fun t_5 et_5 => ?_)
  have hk_5 := kt_divk et_5 (by omega) (by omega)
  refine lv_istore (lv' := [(4, .int t_5), (0, .ref mx), (1, .int p1), (2, .int p2), (3, .int p3)]) hx hb dX11_along_6 hl (by decide) rfl (fun ls hl => ?_)
  refine lv_iload_n hx hb dX11_along_8 rfl (lv_at hl 2 rfl) ?_
  refine lv_aload_n hx hb dX11_along_9 rfl (lv_at hl 1 rfl) ?_
  refine va_get (D := D) (ci := 11) (C := RX11) (T := TX11) (N := 29) hx hb hts iw_X11_along_X11 hown hK hP 0 rfl rfl 1 (by decide) (hts (.fieldLink RX11 13 "KingTableModel" "wide" "I") (List.mem_cons_of_mem _ (List.mem_append_left _ (List.Mem.head _)))) (fun _ h9 => h9) rfl dX11_along_10 ?_
  refine lv_irem hx hb dX11_along_13 (by intro h; rw [h] at hmw; exact absurd hmw (by decide)) ?_
  refine lv_topi (fun t_13 et_13 => ?_)
  have hk_13 := kt_remk et_13 (by omega) (by omega)
  refine lv_istore (lv' := [(5, .int t_13), (4, .int t_5), (0, .ref mx), (1, .int p1), (2, .int p2), (3, .int p3)]) hx hb dX11_along_14 hl (by decide) rfl (fun ls hl => ?_)
  have hal := kt_alng hmw hml_ hp1 hp3
  obtain ⟨ha1, ha2, ha3, ha4, hb1, hb2, hb3, hb4, hb5, hb6⟩ := hal
  rw [← hk_5] at ha1 ha3 hb1 hb2
  rw [← hk_13] at ha2 ha4 hb3 hb4
  have hro := kt_rom_c p1.toInt mw.toInt ml.toInt p2.toInt
  rw [← hk_5, ← hk_13] at hro
  have hsc := kt_stp_c mw.toInt p2.toInt p3.toInt
  have hac := kt_al_c p1.toInt mw.toInt ml.toInt p2.toInt p3.toInt
  refine lv_iload_n hx hb dX11_along_16 rfl (lv_at hl 4 rfl) ?_
  refine lv_if_ne (tgt := 25) hx hb dX11_along_17 (by decide) (fun c_17 => ?_) (fun c_17 => ?_)
  · have d_17 := c_17
    simp only [kt_lt, kt_le, kt_eq, kt_c0, kt_c1, kt_c2, kt_c3, kt_c4, kt_c8, kt_c9, kt_cm1, kt_c81, kt_c40, kt_c7, kt_c5, kt_c6, kt_c512, kt_c10, kt_c10000] at d_17
    refine lv_iload_n hx hb dX11_along_25 rfl (lv_at hl 4 rfl) ?_
    refine lv_iconst (v := 1) hx hb dX11_along_26 (by decide) ?_
    refine lv_icmp_ne (tgt := 42) hx hb dX11_along_27 (by decide) (fun c_27 => ?_) (fun c_27 => ?_)
    · have d_27 := c_27
      simp only [kt_lt, kt_le, kt_eq, kt_c0, kt_c1, kt_c2, kt_c3, kt_c4, kt_c8, kt_c9, kt_cm1, kt_c81, kt_c40, kt_c7, kt_c5, kt_c6, kt_c512, kt_c10, kt_c10000] at d_27
      refine lv_iload_n hx hb dX11_along_42 rfl (lv_at hl 4 rfl) ?_
      refine lv_iconst (v := 2) hx hb dX11_along_43 (by decide) ?_
      refine lv_icmp_ne (tgt := 59) hx hb dX11_along_44 (by decide) (fun c_44 => ?_) (fun c_44 => ?_)
      · have d_44 := c_44
        simp only [kt_lt, kt_le, kt_eq, kt_c0, kt_c1, kt_c2, kt_c3, kt_c4, kt_c8, kt_c9, kt_cm1, kt_c81, kt_c40, kt_c7, kt_c5, kt_c6, kt_c512, kt_c10, kt_c10000] at d_44
        refine lv_iload hx hb dX11_along_59 (lv_at hl 0 rfl) ?_
        refine lv_istore (lv' := [(6, .int t_13), (5, .int t_13), (4, .int t_5), (0, .ref mx), (1, .int p1), (2, .int p2), (3, .int p3)]) hx hb dX11_along_61 hl (by decide) rfl (fun ls hl => ?_)
        refine lv_iload_n hx hb dX11_along_63 rfl (lv_at hl 6 rfl) ?_
        refine lv_iload hx hb dX11_along_64 (lv_at hl 0 rfl) ?_
        refine lv_icmp_le (tgt := 71) hx hb dX11_along_66 (by decide) (fun c_66 => ?_) (fun c_66 => ?_)
        · have d_66 := c_66
          simp only [kt_lt, kt_le, kt_eq, kt_c0, kt_c1, kt_c2, kt_c3, kt_c4, kt_c8, kt_c9, kt_cm1, kt_c81, kt_c40, kt_c7, kt_c5, kt_c6, kt_c512, kt_c10, kt_c10000] at d_66
          refine lv_iload_n hx hb dX11_along_71 rfl (lv_at hl 4 rfl) ?_
          refine lv_iload_n hx hb dX11_along_72 rfl (lv_at hl 6 rfl) ?_
          refine lv_iload_n hx hb dX11_along_73 rfl (lv_at hl 5 rfl) ?_
          refine lv_if_ne (tgt := 85) hx hb dX11_along_74 (by decide) (fun c_74 => ?_) (fun c_74 => ?_)
          · have d_74 := c_74
            simp only [kt_lt, kt_le, kt_eq, kt_c0, kt_c1, kt_c2, kt_c3, kt_c4, kt_c8, kt_c9, kt_cm1, kt_c81, kt_c40, kt_c7, kt_c5, kt_c6, kt_c512, kt_c10, kt_c10000] at d_74
            refine lv_iload_n hx hb dX11_along_85 rfl (lv_at hl 5 rfl) ?_
            refine lv_iconst (v := 1) hx hb dX11_along_86 (by decide) ?_
            refine lv_icmp_ne (tgt := 94) hx hb dX11_along_87 (by decide) (fun c_87 => ?_) (fun c_87 => ?_)
            · have d_87 := c_87
              simp only [kt_lt, kt_le, kt_eq, kt_c0, kt_c1, kt_c2, kt_c3, kt_c4, kt_c8, kt_c9, kt_cm1, kt_c81, kt_c40, kt_c7, kt_c5, kt_c6, kt_c512, kt_c10, kt_c10000] at d_87
              refine lv_iload_n hx hb dX11_along_94 rfl (lv_at hl 5 rfl) ?_
              refine lv_iconst (v := 2) hx hb dX11_along_95 (by decide) ?_
              refine lv_icmp_ne (tgt := 106) hx hb dX11_along_96 (by decide) (fun c_96 => ?_) (fun c_96 => ?_)
              · have d_96 := c_96
                simp only [kt_lt, kt_le, kt_eq, kt_c0, kt_c1, kt_c2, kt_c3, kt_c4, kt_c8, kt_c9, kt_cm1, kt_c81, kt_c40, kt_c7, kt_c5, kt_c6, kt_c512, kt_c10, kt_c10000] at d_96
                refine lv_iconst (v := (-1)) hx hb dX11_along_106 (by decide) ?_
                refine lv_imul hx hb dX11_along_107 ?_
                refine lv_topi (fun t_107 et_107 => ?_)
                obtain ⟨k_107, hk_107, hm_107, hM_107⟩ := kt_mulk (C := -1) et_107 (by decide)
                try simp only [kt_c0, kt_c1, kt_c2, kt_c3, kt_c4, kt_c8, kt_c9, kt_cm1, kt_c81, kt_c40, kt_c7, kt_c5, kt_c6, kt_c512, kt_c10, kt_c10000] at hk_107
                try have hm81 : p3.toInt * t_81.toInt = -(p3.toInt * mw.toInt) := by rw [show t_81.toInt = -mw.toInt by omega, Int.mul_neg]
                refine lv_iadd hx hb dX11_along_108 ?_
                refine lv_topi (fun t_108 et_108 => ?_)
                first | have hk_108 := kt_addx et_108 (by first | omega | (simp only [kt_c0, kt_c1, kt_c2, kt_c3, kt_c4, kt_c8, kt_c9, kt_cm1, kt_c81, kt_c40, kt_c7, kt_c5, kt_c6, kt_c512, kt_c10, kt_c10000]; omega)) (by first | omega | (simp only [kt_c0, kt_c1, kt_c2, kt_c3, kt_c4, kt_c8, kt_c9, kt_cm1, kt_c81, kt_c40, kt_c7, kt_c5, kt_c6, kt_c512, kt_c10, kt_c10000]; omega)) | obtain ⟨k_108, hk_108, hm_108, hM_108⟩ := kt_addk et_108
                exact kt_ri () hx hb hr hlk hS dX11_along_109 hP hD (by show t_108.toInt = kt_al p1.toInt mw.toInt ml.toInt p2.toInt p3.toInt; first | omega | (rw [hac.2 (by omega)]; decide))
              · have d_96 := c_96
                simp only [kt_lt, kt_le, kt_eq, kt_c0, kt_c1, kt_c2, kt_c3, kt_c4, kt_c8, kt_c9, kt_cm1, kt_c81, kt_c40, kt_c7, kt_c5, kt_c6, kt_c512, kt_c10, kt_c10000] at d_96
                refine lv_aload_n hx hb dX11_along_99 rfl (lv_at hl 3 rfl) ?_
                refine va_get (D := D) (ci := 11) (C := RX11) (T := TX11) (N := 29) hx hb hts iw_X11_along_X11 hown hK hP 0 rfl rfl 1 (by decide) (hts (.fieldLink RX11 13 "KingTableModel" "wide" "I") (List.mem_cons_of_mem _ (List.mem_append_left _ (List.Mem.head _)))) (fun _ h9 => h9) rfl dX11_along_100 ?_
                refine lv_goto (tgt := 107) hx hb dX11_along_103 (by decide) ?_
                refine lv_imul hx hb dX11_along_107 ?_
                refine lv_topi (fun t_107 et_107 => ?_)
                obtain ⟨k_107, hk_107, hm_107, hM_107⟩ := kt_mulxk et_107
                try have hm81 : p3.toInt * t_81.toInt = -(p3.toInt * mw.toInt) := by rw [show t_81.toInt = -mw.toInt by omega, Int.mul_neg]
                refine lv_iadd hx hb dX11_along_108 ?_
                refine lv_topi (fun t_108 et_108 => ?_)
                first | have hk_108 := kt_addx et_108 (by first | omega | (simp only [kt_c0, kt_c1, kt_c2, kt_c3, kt_c4, kt_c8, kt_c9, kt_cm1, kt_c81, kt_c40, kt_c7, kt_c5, kt_c6, kt_c512, kt_c10, kt_c10000]; omega)) (by first | omega | (simp only [kt_c0, kt_c1, kt_c2, kt_c3, kt_c4, kt_c8, kt_c9, kt_cm1, kt_c81, kt_c40, kt_c7, kt_c5, kt_c6, kt_c512, kt_c10, kt_c10000]; omega)) | obtain ⟨k_108, hk_108, hm_108, hM_108⟩ := kt_addk et_108
                exact kt_ri () hx hb hr hlk hS dX11_along_109 hP hD (by show t_108.toInt = kt_al p1.toInt mw.toInt ml.toInt p2.toInt p3.toInt; first | omega | (rw [hac.2 (by omega)]; decide))
            · have d_87 := c_87
              simp only [kt_lt, kt_le, kt_eq, kt_c0, kt_c1, kt_c2, kt_c3, kt_c4, kt_c8, kt_c9, kt_cm1, kt_c81, kt_c40, kt_c7, kt_c5, kt_c6, kt_c512, kt_c10, kt_c10000] at d_87
              refine lv_iconst (v := 1) hx hb dX11_along_90 (by decide) ?_
              refine lv_goto (tgt := 107) hx hb dX11_along_91 (by decide) ?_
              refine lv_imul hx hb dX11_along_107 ?_
              refine lv_topi (fun t_107 et_107 => ?_)
              obtain ⟨k_107, hk_107, hm_107, hM_107⟩ := kt_mulk (C := 1) et_107 (by decide)
              try simp only [kt_c0, kt_c1, kt_c2, kt_c3, kt_c4, kt_c8, kt_c9, kt_cm1, kt_c81, kt_c40, kt_c7, kt_c5, kt_c6, kt_c512, kt_c10, kt_c10000] at hk_107
              try have hm81 : p3.toInt * t_81.toInt = -(p3.toInt * mw.toInt) := by rw [show t_81.toInt = -mw.toInt by omega, Int.mul_neg]
              refine lv_iadd hx hb dX11_along_108 ?_
              refine lv_topi (fun t_108 et_108 => ?_)
              first | have hk_108 := kt_addx et_108 (by first | omega | (simp only [kt_c0, kt_c1, kt_c2, kt_c3, kt_c4, kt_c8, kt_c9, kt_cm1, kt_c81, kt_c40, kt_c7, kt_c5, kt_c6, kt_c512, kt_c10, kt_c10000]; omega)) (by first | omega | (simp only [kt_c0, kt_c1, kt_c2, kt_c3, kt_c4, kt_c8, kt_c9, kt_cm1, kt_c81, kt_c40, kt_c7, kt_c5, kt_c6, kt_c512, kt_c10, kt_c10000]; omega)) | obtain ⟨k_108, hk_108, hm_108, hM_108⟩ := kt_addk et_108
              exact kt_ri () hx hb hr hlk hS dX11_along_109 hP hD (by show t_108.toInt = kt_al p1.toInt mw.toInt ml.toInt p2.toInt p3.toInt; first | omega | (rw [hac.2 (by omega)]; decide))
          · have d_74 := c_74
            simp only [kt_lt, kt_le, kt_eq, kt_c0, kt_c1, kt_c2, kt_c3, kt_c4, kt_c8, kt_c9, kt_cm1, kt_c81, kt_c40, kt_c7, kt_c5, kt_c6, kt_c512, kt_c10, kt_c10000] at d_74
            refine lv_aload_n hx hb dX11_along_77 rfl (lv_at hl 3 rfl) ?_
            refine va_get (D := D) (ci := 11) (C := RX11) (T := TX11) (N := 29) hx hb hts iw_X11_along_X11 hown hK hP 0 rfl rfl 1 (by decide) (hts (.fieldLink RX11 13 "KingTableModel" "wide" "I") (List.mem_cons_of_mem _ (List.mem_append_left _ (List.Mem.head _)))) (fun _ h9 => h9) rfl dX11_along_78 ?_
            refine lv_ineg hx hb dX11_along_81 ?_
            refine lv_topi (fun t_81 et_81 => ?_)
            obtain ⟨k_81, hk_81, hm_81, hM_81⟩ := kt_negk et_81
            refine lv_goto (tgt := 107) hx hb dX11_along_82 (by decide) ?_
            refine lv_imul hx hb dX11_along_107 ?_
            refine lv_topi (fun t_107 et_107 => ?_)
            obtain ⟨k_107, hk_107, hm_107, hM_107⟩ := kt_mulxk et_107
            try have hm81 : p3.toInt * t_81.toInt = -(p3.toInt * mw.toInt) := by rw [show t_81.toInt = -mw.toInt by omega, Int.mul_neg]
            refine lv_iadd hx hb dX11_along_108 ?_
            refine lv_topi (fun t_108 et_108 => ?_)
            first | have hk_108 := kt_addx et_108 (by first | omega | (simp only [kt_c0, kt_c1, kt_c2, kt_c3, kt_c4, kt_c8, kt_c9, kt_cm1, kt_c81, kt_c40, kt_c7, kt_c5, kt_c6, kt_c512, kt_c10, kt_c10000]; omega)) (by first | omega | (simp only [kt_c0, kt_c1, kt_c2, kt_c3, kt_c4, kt_c8, kt_c9, kt_cm1, kt_c81, kt_c40, kt_c7, kt_c5, kt_c6, kt_c512, kt_c10, kt_c10000]; omega)) | obtain ⟨k_108, hk_108, hm_108, hM_108⟩ := kt_addk et_108
            exact kt_ri () hx hb hr hlk hS dX11_along_109 hP hD (by show t_108.toInt = kt_al p1.toInt mw.toInt ml.toInt p2.toInt p3.toInt; first | omega | (rw [hac.2 (by omega)]; decide))
        · have d_66 := c_66
          simp only [kt_lt, kt_le, kt_eq, kt_c0, kt_c1, kt_c2, kt_c3, kt_c4, kt_c8, kt_c9, kt_cm1, kt_c81, kt_c40, kt_c7, kt_c5, kt_c6, kt_c512, kt_c10, kt_c10000] at d_66
          refine lv_iconst (v := (-1)) hx hb dX11_along_69 (by decide) ?_
          exact kt_ri () hx hb hr hlk hS dX11_along_70 hP hD (by show (-1 : Int32).toInt = kt_al p1.toInt mw.toInt ml.toInt p2.toInt p3.toInt; first | omega | (rw [hac.2 (by omega)]; decide))
      · have d_44 := c_44
        simp only [kt_lt, kt_le, kt_eq, kt_c0, kt_c1, kt_c2, kt_c3, kt_c4, kt_c8, kt_c9, kt_cm1, kt_c81, kt_c40, kt_c7, kt_c5, kt_c6, kt_c512, kt_c10, kt_c10000] at d_44
        refine lv_aload_n hx hb dX11_along_47 rfl (lv_at hl 2 rfl) ?_
        refine va_get (D := D) (ci := 11) (C := RX11) (T := TX11) (N := 29) hx hb hts iw_X11_along_X11 hown hK hP 0 rfl rfl 0 (by decide) (hts (.fieldLink RX11 7 "KingTableModel" "lines" "I") (List.mem_cons_of_mem _ (List.mem_append_left _ (List.mem_cons_of_mem _ (List.Mem.head _))))) (fun _ h9 => h9) rfl dX11_along_48 ?_
        refine lv_iconst (v := 1) hx hb dX11_along_51 (by decide) ?_
        refine lv_isub hx hb dX11_along_52 ?_
        refine lv_topi (fun t_52 et_52 => ?_)
        first | have hk_52 := kt_subx et_52 (by first | omega | (simp only [kt_c0, kt_c1, kt_c2, kt_c3, kt_c4, kt_c8, kt_c9, kt_cm1, kt_c81, kt_c40, kt_c7, kt_c5, kt_c6, kt_c512, kt_c10, kt_c10000]; omega)) (by first | omega | (simp only [kt_c0, kt_c1, kt_c2, kt_c3, kt_c4, kt_c8, kt_c9, kt_cm1, kt_c81, kt_c40, kt_c7, kt_c5, kt_c6, kt_c512, kt_c10, kt_c10000]; omega)) | obtain ⟨k_52, hk_52, hm_52, hM_52⟩ := kt_subk et_52
        try simp only [kt_c0, kt_c1, kt_c2, kt_c3, kt_c4, kt_c8, kt_c9, kt_cm1, kt_c81, kt_c40, kt_c7, kt_c5, kt_c6, kt_c512, kt_c10, kt_c10000] at hk_52
        refine lv_iload hx hb dX11_along_53 (lv_at hl 1 rfl) ?_
        refine lv_isub hx hb dX11_along_55 ?_
        refine lv_topi (fun t_55 et_55 => ?_)
        first | have hk_55 := kt_subx et_55 (by first | omega | (simp only [kt_c0, kt_c1, kt_c2, kt_c3, kt_c4, kt_c8, kt_c9, kt_cm1, kt_c81, kt_c40, kt_c7, kt_c5, kt_c6, kt_c512, kt_c10, kt_c10000]; omega)) (by first | omega | (simp only [kt_c0, kt_c1, kt_c2, kt_c3, kt_c4, kt_c8, kt_c9, kt_cm1, kt_c81, kt_c40, kt_c7, kt_c5, kt_c6, kt_c512, kt_c10, kt_c10000]; omega)) | obtain ⟨k_55, hk_55, hm_55, hM_55⟩ := kt_subk et_55
        refine lv_goto (tgt := 61) hx hb dX11_along_56 (by decide) ?_
        refine lv_istore (lv' := [(6, .int t_55), (5, .int t_13), (4, .int t_5), (0, .ref mx), (1, .int p1), (2, .int p2), (3, .int p3)]) hx hb dX11_along_61 hl (by decide) rfl (fun ls hl => ?_)
        refine lv_iload_n hx hb dX11_along_63 rfl (lv_at hl 6 rfl) ?_
        refine lv_iload hx hb dX11_along_64 (lv_at hl 0 rfl) ?_
        refine lv_icmp_le (tgt := 71) hx hb dX11_along_66 (by decide) (fun c_66 => ?_) (fun c_66 => ?_)
        · have d_66 := c_66
          simp only [kt_lt, kt_le, kt_eq, kt_c0, kt_c1, kt_c2, kt_c3, kt_c4, kt_c8, kt_c9, kt_cm1, kt_c81, kt_c40, kt_c7, kt_c5, kt_c6, kt_c512, kt_c10, kt_c10000] at d_66
          refine lv_iload_n hx hb dX11_along_71 rfl (lv_at hl 4 rfl) ?_
          refine lv_iload_n hx hb dX11_along_72 rfl (lv_at hl 6 rfl) ?_
          refine lv_iload_n hx hb dX11_along_73 rfl (lv_at hl 5 rfl) ?_
          refine lv_if_ne (tgt := 85) hx hb dX11_along_74 (by decide) (fun c_74 => ?_) (fun c_74 => ?_)
          · have d_74 := c_74
            simp only [kt_lt, kt_le, kt_eq, kt_c0, kt_c1, kt_c2, kt_c3, kt_c4, kt_c8, kt_c9, kt_cm1, kt_c81, kt_c40, kt_c7, kt_c5, kt_c6, kt_c512, kt_c10, kt_c10000] at d_74
            refine lv_iload_n hx hb dX11_along_85 rfl (lv_at hl 5 rfl) ?_
            refine lv_iconst (v := 1) hx hb dX11_along_86 (by decide) ?_
            refine lv_icmp_ne (tgt := 94) hx hb dX11_along_87 (by decide) (fun c_87 => ?_) (fun c_87 => ?_)
            · have d_87 := c_87
              simp only [kt_lt, kt_le, kt_eq, kt_c0, kt_c1, kt_c2, kt_c3, kt_c4, kt_c8, kt_c9, kt_cm1, kt_c81, kt_c40, kt_c7, kt_c5, kt_c6, kt_c512, kt_c10, kt_c10000] at d_87
              refine lv_iload_n hx hb dX11_along_94 rfl (lv_at hl 5 rfl) ?_
              refine lv_iconst (v := 2) hx hb dX11_along_95 (by decide) ?_
              refine lv_icmp_ne (tgt := 106) hx hb dX11_along_96 (by decide) (fun c_96 => ?_) (fun c_96 => ?_)
              · have d_96 := c_96
                simp only [kt_lt, kt_le, kt_eq, kt_c0, kt_c1, kt_c2, kt_c3, kt_c4, kt_c8, kt_c9, kt_cm1, kt_c81, kt_c40, kt_c7, kt_c5, kt_c6, kt_c512, kt_c10, kt_c10000] at d_96
                refine lv_iconst (v := (-1)) hx hb dX11_along_106 (by decide) ?_
                refine lv_imul hx hb dX11_along_107 ?_
                refine lv_topi (fun t_107 et_107 => ?_)
                obtain ⟨k_107, hk_107, hm_107, hM_107⟩ := kt_mulk (C := -1) et_107 (by decide)
                try simp only [kt_c0, kt_c1, kt_c2, kt_c3, kt_c4, kt_c8, kt_c9, kt_cm1, kt_c81, kt_c40, kt_c7, kt_c5, kt_c6, kt_c512, kt_c10, kt_c10000] at hk_107
                try have hm81 : p3.toInt * t_81.toInt = -(p3.toInt * mw.toInt) := by rw [show t_81.toInt = -mw.toInt by omega, Int.mul_neg]
                refine lv_iadd hx hb dX11_along_108 ?_
                refine lv_topi (fun t_108 et_108 => ?_)
                first | have hk_108 := kt_addx et_108 (by first | omega | (simp only [kt_c0, kt_c1, kt_c2, kt_c3, kt_c4, kt_c8, kt_c9, kt_cm1, kt_c81, kt_c40, kt_c7, kt_c5, kt_c6, kt_c512, kt_c10, kt_c10000]; omega)) (by first | omega | (simp only [kt_c0, kt_c1, kt_c2, kt_c3, kt_c4, kt_c8, kt_c9, kt_cm1, kt_c81, kt_c40, kt_c7, kt_c5, kt_c6, kt_c512, kt_c10, kt_c10000]; omega)) | obtain ⟨k_108, hk_108, hm_108, hM_108⟩ := kt_addk et_108
                exact kt_ri () hx hb hr hlk hS dX11_along_109 hP hD (by show t_108.toInt = kt_al p1.toInt mw.toInt ml.toInt p2.toInt p3.toInt; first | omega | (rw [hac.2 (by omega)]; decide))
              · have d_96 := c_96
                simp only [kt_lt, kt_le, kt_eq, kt_c0, kt_c1, kt_c2, kt_c3, kt_c4, kt_c8, kt_c9, kt_cm1, kt_c81, kt_c40, kt_c7, kt_c5, kt_c6, kt_c512, kt_c10, kt_c10000] at d_96
                refine lv_aload_n hx hb dX11_along_99 rfl (lv_at hl 3 rfl) ?_
                refine va_get (D := D) (ci := 11) (C := RX11) (T := TX11) (N := 29) hx hb hts iw_X11_along_X11 hown hK hP 0 rfl rfl 1 (by decide) (hts (.fieldLink RX11 13 "KingTableModel" "wide" "I") (List.mem_cons_of_mem _ (List.mem_append_left _ (List.Mem.head _)))) (fun _ h9 => h9) rfl dX11_along_100 ?_
                refine lv_goto (tgt := 107) hx hb dX11_along_103 (by decide) ?_
                refine lv_imul hx hb dX11_along_107 ?_
                refine lv_topi (fun t_107 et_107 => ?_)
                obtain ⟨k_107, hk_107, hm_107, hM_107⟩ := kt_mulxk et_107
                try have hm81 : p3.toInt * t_81.toInt = -(p3.toInt * mw.toInt) := by rw [show t_81.toInt = -mw.toInt by omega, Int.mul_neg]
                refine lv_iadd hx hb dX11_along_108 ?_
                refine lv_topi (fun t_108 et_108 => ?_)
                first | have hk_108 := kt_addx et_108 (by first | omega | (simp only [kt_c0, kt_c1, kt_c2, kt_c3, kt_c4, kt_c8, kt_c9, kt_cm1, kt_c81, kt_c40, kt_c7, kt_c5, kt_c6, kt_c512, kt_c10, kt_c10000]; omega)) (by first | omega | (simp only [kt_c0, kt_c1, kt_c2, kt_c3, kt_c4, kt_c8, kt_c9, kt_cm1, kt_c81, kt_c40, kt_c7, kt_c5, kt_c6, kt_c512, kt_c10, kt_c10000]; omega)) | obtain ⟨k_108, hk_108, hm_108, hM_108⟩ := kt_addk et_108
                exact kt_ri () hx hb hr hlk hS dX11_along_109 hP hD (by show t_108.toInt = kt_al p1.toInt mw.toInt ml.toInt p2.toInt p3.toInt; first | omega | (rw [hac.2 (by omega)]; decide))
            · have d_87 := c_87
              simp only [kt_lt, kt_le, kt_eq, kt_c0, kt_c1, kt_c2, kt_c3, kt_c4, kt_c8, kt_c9, kt_cm1, kt_c81, kt_c40, kt_c7, kt_c5, kt_c6, kt_c512, kt_c10, kt_c10000] at d_87
              refine lv_iconst (v := 1) hx hb dX11_along_90 (by decide) ?_
              refine lv_goto (tgt := 107) hx hb dX11_along_91 (by decide) ?_
              refine lv_imul hx hb dX11_along_107 ?_
              refine lv_topi (fun t_107 et_107 => ?_)
              obtain ⟨k_107, hk_107, hm_107, hM_107⟩ := kt_mulk (C := 1) et_107 (by decide)
              try simp only [kt_c0, kt_c1, kt_c2, kt_c3, kt_c4, kt_c8, kt_c9, kt_cm1, kt_c81, kt_c40, kt_c7, kt_c5, kt_c6, kt_c512, kt_c10, kt_c10000] at hk_107
              try have hm81 : p3.toInt * t_81.toInt = -(p3.toInt * mw.toInt) := by rw [show t_81.toInt = -mw.toInt by omega, Int.mul_neg]
              refine lv_iadd hx hb dX11_along_108 ?_
              refine lv_topi (fun t_108 et_108 => ?_)
              first | have hk_108 := kt_addx et_108 (by first | omega | (simp only [kt_c0, kt_c1, kt_c2, kt_c3, kt_c4, kt_c8, kt_c9, kt_cm1, kt_c81, kt_c40, kt_c7, kt_c5, kt_c6, kt_c512, kt_c10, kt_c10000]; omega)) (by first | omega | (simp only [kt_c0, kt_c1, kt_c2, kt_c3, kt_c4, kt_c8, kt_c9, kt_cm1, kt_c81, kt_c40, kt_c7, kt_c5, kt_c6, kt_c512, kt_c10, kt_c10000]; omega)) | obtain ⟨k_108, hk_108, hm_108, hM_108⟩ := kt_addk et_108
              exact kt_ri () hx hb hr hlk hS dX11_along_109 hP hD (by show t_108.toInt = kt_al p1.toInt mw.toInt ml.toInt p2.toInt p3.toInt; first | omega | (rw [hac.2 (by omega)]; decide))
          · have d_74 := c_74
            simp only [kt_lt, kt_le, kt_eq, kt_c0, kt_c1, kt_c2, kt_c3, kt_c4, kt_c8, kt_c9, kt_cm1, kt_c81, kt_c40, kt_c7, kt_c5, kt_c6, kt_c512, kt_c10, kt_c10000] at d_74
            refine lv_aload_n hx hb dX11_along_77 rfl (lv_at hl 3 rfl) ?_
            refine va_get (D := D) (ci := 11) (C := RX11) (T := TX11) (N := 29) hx hb hts iw_X11_along_X11 hown hK hP 0 rfl rfl 1 (by decide) (hts (.fieldLink RX11 13 "KingTableModel" "wide" "I") (List.mem_cons_of_mem _ (List.mem_append_left _ (List.Mem.head _)))) (fun _ h9 => h9) rfl dX11_along_78 ?_
            refine lv_ineg hx hb dX11_along_81 ?_
            refine lv_topi (fun t_81 et_81 => ?_)
            obtain ⟨k_81, hk_81, hm_81, hM_81⟩ := kt_negk et_81
            refine lv_goto (tgt := 107) hx hb dX11_along_82 (by decide) ?_
            refine lv_imul hx hb dX11_along_107 ?_
            refine lv_topi (fun t_107 et_107 => ?_)
            obtain ⟨k_107, hk_107, hm_107, hM_107⟩ := kt_mulxk et_107
            try have hm81 : p3.toInt * t_81.toInt = -(p3.toInt * mw.toInt) := by rw [show t_81.toInt = -mw.toInt by omega, Int.mul_neg]
            refine lv_iadd hx hb dX11_along_108 ?_
            refine lv_topi (fun t_108 et_108 => ?_)
            first | have hk_108 := kt_addx et_108 (by first | omega | (simp only [kt_c0, kt_c1, kt_c2, kt_c3, kt_c4, kt_c8, kt_c9, kt_cm1, kt_c81, kt_c40, kt_c7, kt_c5, kt_c6, kt_c512, kt_c10, kt_c10000]; omega)) (by first | omega | (simp only [kt_c0, kt_c1, kt_c2, kt_c3, kt_c4, kt_c8, kt_c9, kt_cm1, kt_c81, kt_c40, kt_c7, kt_c5, kt_c6, kt_c512, kt_c10, kt_c10000]; omega)) | obtain ⟨k_108, hk_108, hm_108, hM_108⟩ := kt_addk et_108
            exact kt_ri () hx hb hr hlk hS dX11_along_109 hP hD (by show t_108.toInt = kt_al p1.toInt mw.toInt ml.toInt p2.toInt p3.toInt; first | omega | (rw [hac.2 (by omega)]; decide))
        · have d_66 := c_66
          simp only [kt_lt, kt_le, kt_eq, kt_c0, kt_c1, kt_c2, kt_c3, kt_c4, kt_c8, kt_c9, kt_cm1, kt_c81, kt_c40, kt_c7, kt_c5, kt_c6, kt_c512, kt_c10, kt_c10000] at d_66
          refine lv_iconst (v := (-1)) hx hb dX11_along_69 (by decide) ?_
          exact kt_ri () hx hb hr hlk hS dX11_along_70 hP hD (by show (-1 : Int32).toInt = kt_al p1.toInt mw.toInt ml.toInt p2.toInt p3.toInt; first | omega | (rw [hac.2 (by omega)]; decide))
    · have d_27 := c_27
      simp only [kt_lt, kt_le, kt_eq, kt_c0, kt_c1, kt_c2, kt_c3, kt_c4, kt_c8, kt_c9, kt_cm1, kt_c81, kt_c40, kt_c7, kt_c5, kt_c6, kt_c512, kt_c10, kt_c10000] at d_27
      refine lv_aload_n hx hb dX11_along_30 rfl (lv_at hl 2 rfl) ?_
      refine va_get (D := D) (ci := 11) (C := RX11) (T := TX11) (N := 29) hx hb hts iw_X11_along_X11 hown hK hP 0 rfl rfl 1 (by decide) (hts (.fieldLink RX11 13 "KingTableModel" "wide" "I") (List.mem_cons_of_mem _ (List.mem_append_left _ (List.Mem.head _)))) (fun _ h9 => h9) rfl dX11_along_31 ?_
      refine lv_iconst (v := 1) hx hb dX11_along_34 (by decide) ?_
      refine lv_isub hx hb dX11_along_35 ?_
      refine lv_topi (fun t_35 et_35 => ?_)
      first | have hk_35 := kt_subx et_35 (by first | omega | (simp only [kt_c0, kt_c1, kt_c2, kt_c3, kt_c4, kt_c8, kt_c9, kt_cm1, kt_c81, kt_c40, kt_c7, kt_c5, kt_c6, kt_c512, kt_c10, kt_c10000]; omega)) (by first | omega | (simp only [kt_c0, kt_c1, kt_c2, kt_c3, kt_c4, kt_c8, kt_c9, kt_cm1, kt_c81, kt_c40, kt_c7, kt_c5, kt_c6, kt_c512, kt_c10, kt_c10000]; omega)) | obtain ⟨k_35, hk_35, hm_35, hM_35⟩ := kt_subk et_35
      try simp only [kt_c0, kt_c1, kt_c2, kt_c3, kt_c4, kt_c8, kt_c9, kt_cm1, kt_c81, kt_c40, kt_c7, kt_c5, kt_c6, kt_c512, kt_c10, kt_c10000] at hk_35
      refine lv_iload hx hb dX11_along_36 (lv_at hl 0 rfl) ?_
      refine lv_isub hx hb dX11_along_38 ?_
      refine lv_topi (fun t_38 et_38 => ?_)
      first | have hk_38 := kt_subx et_38 (by first | omega | (simp only [kt_c0, kt_c1, kt_c2, kt_c3, kt_c4, kt_c8, kt_c9, kt_cm1, kt_c81, kt_c40, kt_c7, kt_c5, kt_c6, kt_c512, kt_c10, kt_c10000]; omega)) (by first | omega | (simp only [kt_c0, kt_c1, kt_c2, kt_c3, kt_c4, kt_c8, kt_c9, kt_cm1, kt_c81, kt_c40, kt_c7, kt_c5, kt_c6, kt_c512, kt_c10, kt_c10000]; omega)) | obtain ⟨k_38, hk_38, hm_38, hM_38⟩ := kt_subk et_38
      refine lv_goto (tgt := 61) hx hb dX11_along_39 (by decide) ?_
      refine lv_istore (lv' := [(6, .int t_38), (5, .int t_13), (4, .int t_5), (0, .ref mx), (1, .int p1), (2, .int p2), (3, .int p3)]) hx hb dX11_along_61 hl (by decide) rfl (fun ls hl => ?_)
      refine lv_iload_n hx hb dX11_along_63 rfl (lv_at hl 6 rfl) ?_
      refine lv_iload hx hb dX11_along_64 (lv_at hl 0 rfl) ?_
      refine lv_icmp_le (tgt := 71) hx hb dX11_along_66 (by decide) (fun c_66 => ?_) (fun c_66 => ?_)
      · have d_66 := c_66
        simp only [kt_lt, kt_le, kt_eq, kt_c0, kt_c1, kt_c2, kt_c3, kt_c4, kt_c8, kt_c9, kt_cm1, kt_c81, kt_c40, kt_c7, kt_c5, kt_c6, kt_c512, kt_c10, kt_c10000] at d_66
        refine lv_iload_n hx hb dX11_along_71 rfl (lv_at hl 4 rfl) ?_
        refine lv_iload_n hx hb dX11_along_72 rfl (lv_at hl 6 rfl) ?_
        refine lv_iload_n hx hb dX11_along_73 rfl (lv_at hl 5 rfl) ?_
        refine lv_if_ne (tgt := 85) hx hb dX11_along_74 (by decide) (fun c_74 => ?_) (fun c_74 => ?_)
        · have d_74 := c_74
          simp only [kt_lt, kt_le, kt_eq, kt_c0, kt_c1, kt_c2, kt_c3, kt_c4, kt_c8, kt_c9, kt_cm1, kt_c81, kt_c40, kt_c7, kt_c5, kt_c6, kt_c512, kt_c10, kt_c10000] at d_74
          refine lv_iload_n hx hb dX11_along_85 rfl (lv_at hl 5 rfl) ?_
          refine lv_iconst (v := 1) hx hb dX11_along_86 (by decide) ?_
          refine lv_icmp_ne (tgt := 94) hx hb dX11_along_87 (by decide) (fun c_87 => ?_) (fun c_87 => ?_)
          · have d_87 := c_87
            simp only [kt_lt, kt_le, kt_eq, kt_c0, kt_c1, kt_c2, kt_c3, kt_c4, kt_c8, kt_c9, kt_cm1, kt_c81, kt_c40, kt_c7, kt_c5, kt_c6, kt_c512, kt_c10, kt_c10000] at d_87
            refine lv_iload_n hx hb dX11_along_94 rfl (lv_at hl 5 rfl) ?_
            refine lv_iconst (v := 2) hx hb dX11_along_95 (by decide) ?_
            refine lv_icmp_ne (tgt := 106) hx hb dX11_along_96 (by decide) (fun c_96 => ?_) (fun c_96 => ?_)
            · have d_96 := c_96
              simp only [kt_lt, kt_le, kt_eq, kt_c0, kt_c1, kt_c2, kt_c3, kt_c4, kt_c8, kt_c9, kt_cm1, kt_c81, kt_c40, kt_c7, kt_c5, kt_c6, kt_c512, kt_c10, kt_c10000] at d_96
              refine lv_iconst (v := (-1)) hx hb dX11_along_106 (by decide) ?_
              refine lv_imul hx hb dX11_along_107 ?_
              refine lv_topi (fun t_107 et_107 => ?_)
              obtain ⟨k_107, hk_107, hm_107, hM_107⟩ := kt_mulk (C := -1) et_107 (by decide)
              try simp only [kt_c0, kt_c1, kt_c2, kt_c3, kt_c4, kt_c8, kt_c9, kt_cm1, kt_c81, kt_c40, kt_c7, kt_c5, kt_c6, kt_c512, kt_c10, kt_c10000] at hk_107
              try have hm81 : p3.toInt * t_81.toInt = -(p3.toInt * mw.toInt) := by rw [show t_81.toInt = -mw.toInt by omega, Int.mul_neg]
              refine lv_iadd hx hb dX11_along_108 ?_
              refine lv_topi (fun t_108 et_108 => ?_)
              first | have hk_108 := kt_addx et_108 (by first | omega | (simp only [kt_c0, kt_c1, kt_c2, kt_c3, kt_c4, kt_c8, kt_c9, kt_cm1, kt_c81, kt_c40, kt_c7, kt_c5, kt_c6, kt_c512, kt_c10, kt_c10000]; omega)) (by first | omega | (simp only [kt_c0, kt_c1, kt_c2, kt_c3, kt_c4, kt_c8, kt_c9, kt_cm1, kt_c81, kt_c40, kt_c7, kt_c5, kt_c6, kt_c512, kt_c10, kt_c10000]; omega)) | obtain ⟨k_108, hk_108, hm_108, hM_108⟩ := kt_addk et_108
              exact kt_ri () hx hb hr hlk hS dX11_along_109 hP hD (by show t_108.toInt = kt_al p1.toInt mw.toInt ml.toInt p2.toInt p3.toInt; first | omega | (rw [hac.2 (by omega)]; decide))
            · have d_96 := c_96
              simp only [kt_lt, kt_le, kt_eq, kt_c0, kt_c1, kt_c2, kt_c3, kt_c4, kt_c8, kt_c9, kt_cm1, kt_c81, kt_c40, kt_c7, kt_c5, kt_c6, kt_c512, kt_c10, kt_c10000] at d_96
              refine lv_aload_n hx hb dX11_along_99 rfl (lv_at hl 3 rfl) ?_
              refine va_get (D := D) (ci := 11) (C := RX11) (T := TX11) (N := 29) hx hb hts iw_X11_along_X11 hown hK hP 0 rfl rfl 1 (by decide) (hts (.fieldLink RX11 13 "KingTableModel" "wide" "I") (List.mem_cons_of_mem _ (List.mem_append_left _ (List.Mem.head _)))) (fun _ h9 => h9) rfl dX11_along_100 ?_
              refine lv_goto (tgt := 107) hx hb dX11_along_103 (by decide) ?_
              refine lv_imul hx hb dX11_along_107 ?_
              refine lv_topi (fun t_107 et_107 => ?_)
              obtain ⟨k_107, hk_107, hm_107, hM_107⟩ := kt_mulxk et_107
              try have hm81 : p3.toInt * t_81.toInt = -(p3.toInt * mw.toInt) := by rw [show t_81.toInt = -mw.toInt by omega, Int.mul_neg]
              refine lv_iadd hx hb dX11_along_108 ?_
              refine lv_topi (fun t_108 et_108 => ?_)
              first | have hk_108 := kt_addx et_108 (by first | omega | (simp only [kt_c0, kt_c1, kt_c2, kt_c3, kt_c4, kt_c8, kt_c9, kt_cm1, kt_c81, kt_c40, kt_c7, kt_c5, kt_c6, kt_c512, kt_c10, kt_c10000]; omega)) (by first | omega | (simp only [kt_c0, kt_c1, kt_c2, kt_c3, kt_c4, kt_c8, kt_c9, kt_cm1, kt_c81, kt_c40, kt_c7, kt_c5, kt_c6, kt_c512, kt_c10, kt_c10000]; omega)) | obtain ⟨k_108, hk_108, hm_108, hM_108⟩ := kt_addk et_108
              exact kt_ri () hx hb hr hlk hS dX11_along_109 hP hD (by show t_108.toInt = kt_al p1.toInt mw.toInt ml.toInt p2.toInt p3.toInt; first | omega | (rw [hac.2 (by omega)]; decide))
          · have d_87 := c_87
            simp only [kt_lt, kt_le, kt_eq, kt_c0, kt_c1, kt_c2, kt_c3, kt_c4, kt_c8, kt_c9, kt_cm1, kt_c81, kt_c40, kt_c7, kt_c5, kt_c6, kt_c512, kt_c10, kt_c10000] at d_87
            refine lv_iconst (v := 1) hx hb dX11_along_90 (by decide) ?_
            refine lv_goto (tgt := 107) hx hb dX11_along_91 (by decide) ?_
            refine lv_imul hx hb dX11_along_107 ?_
            refine lv_topi (fun t_107 et_107 => ?_)
            obtain ⟨k_107, hk_107, hm_107, hM_107⟩ := kt_mulk (C := 1) et_107 (by decide)
            try simp only [kt_c0, kt_c1, kt_c2, kt_c3, kt_c4, kt_c8, kt_c9, kt_cm1, kt_c81, kt_c40, kt_c7, kt_c5, kt_c6, kt_c512, kt_c10, kt_c10000] at hk_107
            try have hm81 : p3.toInt * t_81.toInt = -(p3.toInt * mw.toInt) := by rw [show t_81.toInt = -mw.toInt by omega, Int.mul_neg]
            refine lv_iadd hx hb dX11_along_108 ?_
            refine lv_topi (fun t_108 et_108 => ?_)
            first | have hk_108 := kt_addx et_108 (by first | omega | (simp only [kt_c0, kt_c1, kt_c2, kt_c3, kt_c4, kt_c8, kt_c9, kt_cm1, kt_c81, kt_c40, kt_c7, kt_c5, kt_c6, kt_c512, kt_c10, kt_c10000]; omega)) (by first | omega | (simp only [kt_c0, kt_c1, kt_c2, kt_c3, kt_c4, kt_c8, kt_c9, kt_cm1, kt_c81, kt_c40, kt_c7, kt_c5, kt_c6, kt_c512, kt_c10, kt_c10000]; omega)) | obtain ⟨k_108, hk_108, hm_108, hM_108⟩ := kt_addk et_108
            exact kt_ri () hx hb hr hlk hS dX11_along_109 hP hD (by show t_108.toInt = kt_al p1.toInt mw.toInt ml.toInt p2.toInt p3.toInt; first | omega | (rw [hac.2 (by omega)]; decide))
        · have d_74 := c_74
          simp only [kt_lt, kt_le, kt_eq, kt_c0, kt_c1, kt_c2, kt_c3, kt_c4, kt_c8, kt_c9, kt_cm1, kt_c81, kt_c40, kt_c7, kt_c5, kt_c6, kt_c512, kt_c10, kt_c10000] at d_74
          refine lv_aload_n hx hb dX11_along_77 rfl (lv_at hl 3 rfl) ?_
          refine va_get (D := D) (ci := 11) (C := RX11) (T := TX11) (N := 29) hx hb hts iw_X11_along_X11 hown hK hP 0 rfl rfl 1 (by decide) (hts (.fieldLink RX11 13 "KingTableModel" "wide" "I") (List.mem_cons_of_mem _ (List.mem_append_left _ (List.Mem.head _)))) (fun _ h9 => h9) rfl dX11_along_78 ?_
          refine lv_ineg hx hb dX11_along_81 ?_
          refine lv_topi (fun t_81 et_81 => ?_)
          obtain ⟨k_81, hk_81, hm_81, hM_81⟩ := kt_negk et_81
          refine lv_goto (tgt := 107) hx hb dX11_along_82 (by decide) ?_
          refine lv_imul hx hb dX11_along_107 ?_
          refine lv_topi (fun t_107 et_107 => ?_)
          obtain ⟨k_107, hk_107, hm_107, hM_107⟩ := kt_mulxk et_107
          try have hm81 : p3.toInt * t_81.toInt = -(p3.toInt * mw.toInt) := by rw [show t_81.toInt = -mw.toInt by omega, Int.mul_neg]
          refine lv_iadd hx hb dX11_along_108 ?_
          refine lv_topi (fun t_108 et_108 => ?_)
          first | have hk_108 := kt_addx et_108 (by first | omega | (simp only [kt_c0, kt_c1, kt_c2, kt_c3, kt_c4, kt_c8, kt_c9, kt_cm1, kt_c81, kt_c40, kt_c7, kt_c5, kt_c6, kt_c512, kt_c10, kt_c10000]; omega)) (by first | omega | (simp only [kt_c0, kt_c1, kt_c2, kt_c3, kt_c4, kt_c8, kt_c9, kt_cm1, kt_c81, kt_c40, kt_c7, kt_c5, kt_c6, kt_c512, kt_c10, kt_c10000]; omega)) | obtain ⟨k_108, hk_108, hm_108, hM_108⟩ := kt_addk et_108
          exact kt_ri () hx hb hr hlk hS dX11_along_109 hP hD (by show t_108.toInt = kt_al p1.toInt mw.toInt ml.toInt p2.toInt p3.toInt; first | omega | (rw [hac.2 (by omega)]; decide))
      · have d_66 := c_66
        simp only [kt_lt, kt_le, kt_eq, kt_c0, kt_c1, kt_c2, kt_c3, kt_c4, kt_c8, kt_c9, kt_cm1, kt_c81, kt_c40, kt_c7, kt_c5, kt_c6, kt_c512, kt_c10, kt_c10000] at d_66
        refine lv_iconst (v := (-1)) hx hb dX11_along_69 (by decide) ?_
        exact kt_ri () hx hb hr hlk hS dX11_along_70 hP hD (by show (-1 : Int32).toInt = kt_al p1.toInt mw.toInt ml.toInt p2.toInt p3.toInt; first | omega | (rw [hac.2 (by omega)]; decide))
  · have d_17 := c_17
    simp only [kt_lt, kt_le, kt_eq, kt_c0, kt_c1, kt_c2, kt_c3, kt_c4, kt_c8, kt_c9, kt_cm1, kt_c81, kt_c40, kt_c7, kt_c5, kt_c6, kt_c512, kt_c10, kt_c10000] at d_17
    refine lv_iload hx hb dX11_along_20 (lv_at hl 1 rfl) ?_
    refine lv_goto (tgt := 61) hx hb dX11_along_22 (by decide) ?_
    refine lv_istore (lv' := [(6, .int t_5), (5, .int t_13), (4, .int t_5), (0, .ref mx), (1, .int p1), (2, .int p2), (3, .int p3)]) hx hb dX11_along_61 hl (by decide) rfl (fun ls hl => ?_)
    refine lv_iload_n hx hb dX11_along_63 rfl (lv_at hl 6 rfl) ?_
    refine lv_iload hx hb dX11_along_64 (lv_at hl 0 rfl) ?_
    refine lv_icmp_le (tgt := 71) hx hb dX11_along_66 (by decide) (fun c_66 => ?_) (fun c_66 => ?_)
    · have d_66 := c_66
      simp only [kt_lt, kt_le, kt_eq, kt_c0, kt_c1, kt_c2, kt_c3, kt_c4, kt_c8, kt_c9, kt_cm1, kt_c81, kt_c40, kt_c7, kt_c5, kt_c6, kt_c512, kt_c10, kt_c10000] at d_66
      refine lv_iload_n hx hb dX11_along_71 rfl (lv_at hl 4 rfl) ?_
      refine lv_iload_n hx hb dX11_along_72 rfl (lv_at hl 6 rfl) ?_
      refine lv_iload_n hx hb dX11_along_73 rfl (lv_at hl 5 rfl) ?_
      refine lv_if_ne (tgt := 85) hx hb dX11_along_74 (by decide) (fun c_74 => ?_) (fun c_74 => ?_)
      · have d_74 := c_74
        simp only [kt_lt, kt_le, kt_eq, kt_c0, kt_c1, kt_c2, kt_c3, kt_c4, kt_c8, kt_c9, kt_cm1, kt_c81, kt_c40, kt_c7, kt_c5, kt_c6, kt_c512, kt_c10, kt_c10000] at d_74
        refine lv_iload_n hx hb dX11_along_85 rfl (lv_at hl 5 rfl) ?_
        refine lv_iconst (v := 1) hx hb dX11_along_86 (by decide) ?_
        refine lv_icmp_ne (tgt := 94) hx hb dX11_along_87 (by decide) (fun c_87 => ?_) (fun c_87 => ?_)
        · have d_87 := c_87
          simp only [kt_lt, kt_le, kt_eq, kt_c0, kt_c1, kt_c2, kt_c3, kt_c4, kt_c8, kt_c9, kt_cm1, kt_c81, kt_c40, kt_c7, kt_c5, kt_c6, kt_c512, kt_c10, kt_c10000] at d_87
          refine lv_iload_n hx hb dX11_along_94 rfl (lv_at hl 5 rfl) ?_
          refine lv_iconst (v := 2) hx hb dX11_along_95 (by decide) ?_
          refine lv_icmp_ne (tgt := 106) hx hb dX11_along_96 (by decide) (fun c_96 => ?_) (fun c_96 => ?_)
          · have d_96 := c_96
            simp only [kt_lt, kt_le, kt_eq, kt_c0, kt_c1, kt_c2, kt_c3, kt_c4, kt_c8, kt_c9, kt_cm1, kt_c81, kt_c40, kt_c7, kt_c5, kt_c6, kt_c512, kt_c10, kt_c10000] at d_96
            refine lv_iconst (v := (-1)) hx hb dX11_along_106 (by decide) ?_
            refine lv_imul hx hb dX11_along_107 ?_
            refine lv_topi (fun t_107 et_107 => ?_)
            obtain ⟨k_107, hk_107, hm_107, hM_107⟩ := kt_mulk (C := -1) et_107 (by decide)
            try simp only [kt_c0, kt_c1, kt_c2, kt_c3, kt_c4, kt_c8, kt_c9, kt_cm1, kt_c81, kt_c40, kt_c7, kt_c5, kt_c6, kt_c512, kt_c10, kt_c10000] at hk_107
            try have hm81 : p3.toInt * t_81.toInt = -(p3.toInt * mw.toInt) := by rw [show t_81.toInt = -mw.toInt by omega, Int.mul_neg]
            refine lv_iadd hx hb dX11_along_108 ?_
            refine lv_topi (fun t_108 et_108 => ?_)
            first | have hk_108 := kt_addx et_108 (by first | omega | (simp only [kt_c0, kt_c1, kt_c2, kt_c3, kt_c4, kt_c8, kt_c9, kt_cm1, kt_c81, kt_c40, kt_c7, kt_c5, kt_c6, kt_c512, kt_c10, kt_c10000]; omega)) (by first | omega | (simp only [kt_c0, kt_c1, kt_c2, kt_c3, kt_c4, kt_c8, kt_c9, kt_cm1, kt_c81, kt_c40, kt_c7, kt_c5, kt_c6, kt_c512, kt_c10, kt_c10000]; omega)) | obtain ⟨k_108, hk_108, hm_108, hM_108⟩ := kt_addk et_108
            exact kt_ri () hx hb hr hlk hS dX11_along_109 hP hD (by show t_108.toInt = kt_al p1.toInt mw.toInt ml.toInt p2.toInt p3.toInt; first | omega | (rw [hac.2 (by omega)]; decide))
          · have d_96 := c_96
            simp only [kt_lt, kt_le, kt_eq, kt_c0, kt_c1, kt_c2, kt_c3, kt_c4, kt_c8, kt_c9, kt_cm1, kt_c81, kt_c40, kt_c7, kt_c5, kt_c6, kt_c512, kt_c10, kt_c10000] at d_96
            refine lv_aload_n hx hb dX11_along_99 rfl (lv_at hl 3 rfl) ?_
            refine va_get (D := D) (ci := 11) (C := RX11) (T := TX11) (N := 29) hx hb hts iw_X11_along_X11 hown hK hP 0 rfl rfl 1 (by decide) (hts (.fieldLink RX11 13 "KingTableModel" "wide" "I") (List.mem_cons_of_mem _ (List.mem_append_left _ (List.Mem.head _)))) (fun _ h9 => h9) rfl dX11_along_100 ?_
            refine lv_goto (tgt := 107) hx hb dX11_along_103 (by decide) ?_
            refine lv_imul hx hb dX11_along_107 ?_
            refine lv_topi (fun t_107 et_107 => ?_)
            obtain ⟨k_107, hk_107, hm_107, hM_107⟩ := kt_mulxk et_107
            try have hm81 : p3.toInt * t_81.toInt = -(p3.toInt * mw.toInt) := by rw [show t_81.toInt = -mw.toInt by omega, Int.mul_neg]
            refine lv_iadd hx hb dX11_along_108 ?_
            refine lv_topi (fun t_108 et_108 => ?_)
            first | have hk_108 := kt_addx et_108 (by first | omega | (simp only [kt_c0, kt_c1, kt_c2, kt_c3, kt_c4, kt_c8, kt_c9, kt_cm1, kt_c81, kt_c40, kt_c7, kt_c5, kt_c6, kt_c512, kt_c10, kt_c10000]; omega)) (by first | omega | (simp only [kt_c0, kt_c1, kt_c2, kt_c3, kt_c4, kt_c8, kt_c9, kt_cm1, kt_c81, kt_c40, kt_c7, kt_c5, kt_c6, kt_c512, kt_c10, kt_c10000]; omega)) | obtain ⟨k_108, hk_108, hm_108, hM_108⟩ := kt_addk et_108
            exact kt_ri () hx hb hr hlk hS dX11_along_109 hP hD (by show t_108.toInt = kt_al p1.toInt mw.toInt ml.toInt p2.toInt p3.toInt; first | omega | (rw [hac.2 (by omega)]; decide))
        · have d_87 := c_87
          simp only [kt_lt, kt_le, kt_eq, kt_c0, kt_c1, kt_c2, kt_c3, kt_c4, kt_c8, kt_c9, kt_cm1, kt_c81, kt_c40, kt_c7, kt_c5, kt_c6, kt_c512, kt_c10, kt_c10000] at d_87
          refine lv_iconst (v := 1) hx hb dX11_along_90 (by decide) ?_
          refine lv_goto (tgt := 107) hx hb dX11_along_91 (by decide) ?_
          refine lv_imul hx hb dX11_along_107 ?_
          refine lv_topi (fun t_107 et_107 => ?_)
          obtain ⟨k_107, hk_107, hm_107, hM_107⟩ := kt_mulk (C := 1) et_107 (by decide)
          try simp only [kt_c0, kt_c1, kt_c2, kt_c3, kt_c4, kt_c8, kt_c9, kt_cm1, kt_c81, kt_c40, kt_c7, kt_c5, kt_c6, kt_c512, kt_c10, kt_c10000] at hk_107
          try have hm81 : p3.toInt * t_81.toInt = -(p3.toInt * mw.toInt) := by rw [show t_81.toInt = -mw.toInt by omega, Int.mul_neg]
          refine lv_iadd hx hb dX11_along_108 ?_
          refine lv_topi (fun t_108 et_108 => ?_)
          first | have hk_108 := kt_addx et_108 (by first | omega | (simp only [kt_c0, kt_c1, kt_c2, kt_c3, kt_c4, kt_c8, kt_c9, kt_cm1, kt_c81, kt_c40, kt_c7, kt_c5, kt_c6, kt_c512, kt_c10, kt_c10000]; omega)) (by first | omega | (simp only [kt_c0, kt_c1, kt_c2, kt_c3, kt_c4, kt_c8, kt_c9, kt_cm1, kt_c81, kt_c40, kt_c7, kt_c5, kt_c6, kt_c512, kt_c10, kt_c10000]; omega)) | obtain ⟨k_108, hk_108, hm_108, hM_108⟩ := kt_addk et_108
          exact kt_ri () hx hb hr hlk hS dX11_along_109 hP hD (by show t_108.toInt = kt_al p1.toInt mw.toInt ml.toInt p2.toInt p3.toInt; first | omega | (rw [hac.2 (by omega)]; decide))
      · have d_74 := c_74
        simp only [kt_lt, kt_le, kt_eq, kt_c0, kt_c1, kt_c2, kt_c3, kt_c4, kt_c8, kt_c9, kt_cm1, kt_c81, kt_c40, kt_c7, kt_c5, kt_c6, kt_c512, kt_c10, kt_c10000] at d_74
        refine lv_aload_n hx hb dX11_along_77 rfl (lv_at hl 3 rfl) ?_
        refine va_get (D := D) (ci := 11) (C := RX11) (T := TX11) (N := 29) hx hb hts iw_X11_along_X11 hown hK hP 0 rfl rfl 1 (by decide) (hts (.fieldLink RX11 13 "KingTableModel" "wide" "I") (List.mem_cons_of_mem _ (List.mem_append_left _ (List.Mem.head _)))) (fun _ h9 => h9) rfl dX11_along_78 ?_
        refine lv_ineg hx hb dX11_along_81 ?_
        refine lv_topi (fun t_81 et_81 => ?_)
        obtain ⟨k_81, hk_81, hm_81, hM_81⟩ := kt_negk et_81
        refine lv_goto (tgt := 107) hx hb dX11_along_82 (by decide) ?_
        refine lv_imul hx hb dX11_along_107 ?_
        refine lv_topi (fun t_107 et_107 => ?_)
        obtain ⟨k_107, hk_107, hm_107, hM_107⟩ := kt_mulxk et_107
        try have hm81 : p3.toInt * t_81.toInt = -(p3.toInt * mw.toInt) := by rw [show t_81.toInt = -mw.toInt by omega, Int.mul_neg]
        refine lv_iadd hx hb dX11_along_108 ?_
        refine lv_topi (fun t_108 et_108 => ?_)
        first | have hk_108 := kt_addx et_108 (by first | omega | (simp only [kt_c0, kt_c1, kt_c2, kt_c3, kt_c4, kt_c8, kt_c9, kt_cm1, kt_c81, kt_c40, kt_c7, kt_c5, kt_c6, kt_c512, kt_c10, kt_c10000]; omega)) (by first | omega | (simp only [kt_c0, kt_c1, kt_c2, kt_c3, kt_c4, kt_c8, kt_c9, kt_cm1, kt_c81, kt_c40, kt_c7, kt_c5, kt_c6, kt_c512, kt_c10, kt_c10000]; omega)) | obtain ⟨k_108, hk_108, hm_108, hM_108⟩ := kt_addk et_108
        exact kt_ri () hx hb hr hlk hS dX11_along_109 hP hD (by show t_108.toInt = kt_al p1.toInt mw.toInt ml.toInt p2.toInt p3.toInt; first | omega | (rw [hac.2 (by omega)]; decide))
    · have d_66 := c_66
      simp only [kt_lt, kt_le, kt_eq, kt_c0, kt_c1, kt_c2, kt_c3, kt_c4, kt_c8, kt_c9, kt_cm1, kt_c81, kt_c40, kt_c7, kt_c5, kt_c6, kt_c512, kt_c10, kt_c10000] at d_66
      refine lv_iconst (v := (-1)) hx hb dX11_along_69 (by decide) ?_
      exact kt_ri () hx hb hr hlk hS dX11_along_70 hP hD (by show (-1 : Int32).toInt = kt_al p1.toInt mw.toInt ml.toInt p2.toInt p3.toInt; first | omega | (rw [hac.2 (by omega)]; decide))

set_option maxHeartbeats 4000000 in
set_option maxRecDepth 100000 in
theorem c_X11_isFoeE (l : Launch) (D : va_G) (cI cZ cB : ClassId) (sz : Nat) (mx : Nat) (ms : Nat) (mk : Nat) (ma : Nat) (mo : Nat) (mg : Nat) (mm : Nat) (mt : Nat) (mn : Nat) (me : Nat) (mq : Nat) (mwo : Nat) (md : Nat) (mf : Nat) (mr : Nat) (ml : Int32) (mw : Int32) (mgl : Int32) (mhd : Int32) (mre : Int32) (mag : Int32) (mkt : Int32) (mho : Int32) (mpc : Int32) (msd : Int32) (mki : Int32) (mdn : Int32) (mun : Int32) (mtk : Int32) (msv : Int32) (P_ : Nat) (fo : Nat → Int32) (fr : Nat → Int32) (fk : Nat → Int32) (p1 : Int32) (p2 : Int32) (hpc : (P_ : Int) = mpc.toInt ∧ P_ ≤ 40) (hfo : kt_r fo 81 (-1) ((P_ : Int) - 1)) (hp1 : 0 ≤ p1.toInt ∧ p1.toInt < (P_ : Int)) (hp2 : -1 ≤ p2.toInt ∧ p2.toInt ≤ 80) : kt_Mi l yX11_isFoe wsX11_isFoe { frames := 1, cells := 0, slots := 0, locals := 21 } D (kt_ty cI cZ cB) [.ref mx, .int p1, .int p2] sz [(mx, .inr (11, [.int ml, .int mw, .ref ms, .int mgl, .int mhd, .int mre, .int mag, .int mkt, .int mho, .int mpc, .int msd, .int mki, .ref mk, .ref ma, .ref mo, .ref mg, .ref mm, .ref mt, .int mdn, .int mun, .ref mn, .int mtk, .ref me, .ref mq, .int msv, .ref mwo, .ref md, .ref mf, .ref mr])), (mo, .inl (cI, 81, .inl fo)), (mg, .inl (cI, 81, .inl fr)), (mk, .inl (cI, 40, .inl fk))] (fun (r : Int32) (u : Unit) => kt_B r (kt_foe fo fr fk mkt p1.toNatClampNeg p2.toInt)) (fun (u : Unit) => [(mx, .inr (11, [.int ml, .int mw, .ref ms, .int mgl, .int mhd, .int mre, .int mag, .int mkt, .int mho, .int mpc, .int msd, .int mki, .ref mk, .ref ma, .ref mo, .ref mg, .ref mm, .ref mt, .int mdn, .int mun, .ref mn, .int mtk, .ref me, .ref mq, .int msv, .ref mwo, .ref md, .ref mf, .ref mr])), (mo, .inl (cI, 81, .inl fo)), (mg, .inl (cI, 81, .inl fr)), (mk, .inl (cI, 40, .inl fk))]) 0 0 := by
  refine kt_Mi.of (cc := cX11_isFoe) (maxL := 3) (ret := some .boolean) (by decide) rfl (Nat.le_of_ble_eq_true rfl) ?_
  intro p e s m below meth c A ls H hAt hP hD hS hl
  obtain ⟨hx, hb, hr, hml, hown, hts, hN, hK, hlk, hnm, hA⟩ := hAt
  have hl : lv_has ls 3 [(0, .ref mx), (1, .int p1), (2, .int p2)] := hl
  have hown : s.vm.findClass RX11 = some m.cls := hown
  refine lv_iload_n hx hb dX11_isFoe_0 rfl (lv_at hl 2 rfl) ?_
  refine lv_iconst (v := (-1)) hx hb dX11_isFoe_1 (by decide) ?_
  refine lv_icmp_ne (tgt := 7) hx hb dX11_isFoe_2 (by decide) (fun c_2 => ?_) (fun c_2 => ?_)
  · have d_2 := c_2
    simp only [kt_lt, kt_le, kt_eq, kt_c0, kt_c1, kt_c2, kt_c3, kt_c4, kt_c8, kt_c9, kt_cm1, kt_c81, kt_c40, kt_c7, kt_c5, kt_c6, kt_c512, kt_c10, kt_c10000] at d_2
    refine lv_aload_n hx hb dX11_isFoe_7 rfl (lv_at hl 0 rfl) ?_
    refine va_get (D := D) (ci := 11) (C := RX11) (T := TX11) (N := 29) hx hb hts iw_X11_isFoe_X11 hown hK hP 0 rfl rfl 14 (by decide) (hts (.fieldLink RX11 33 "KingTableModel" "on" "[I") (List.mem_cons_of_mem _ (List.mem_append_left _ (List.Mem.head _)))) (fun _ h9 => h9) rfl dX11_isFoe_8 ?_
    refine lv_iload_n hx hb dX11_isFoe_11 rfl (lv_at hl 2 rfl) ?_
    have hi_1 : vp_in p2 81 := by exact kt_in (by omega) (by omega)
    refine va_iald hx hb hK hP 1 0 rfl rfl hi_1 dX11_isFoe_12 ?_
    refine lv_topi (fun a_12 ea_12 => ?_)
    have ra_12 := hfo.get hi_1
    rw [← ea_12] at ra_12
    refine lv_iconst (v := (-1)) hx hb dX11_isFoe_13 (by decide) ?_
    refine lv_icmp_ne (tgt := 34) hx hb dX11_isFoe_14 (by decide) (fun c_14 => ?_) (fun c_14 => ?_)
    · have d_14 := c_14
      simp only [kt_lt, kt_le, kt_eq, kt_c0, kt_c1, kt_c2, kt_c3, kt_c4, kt_c8, kt_c9, kt_cm1, kt_c81, kt_c40, kt_c7, kt_c5, kt_c6, kt_c512, kt_c10, kt_c10000] at d_14
      refine lv_aload_n hx hb dX11_isFoe_34 rfl (lv_at hl 0 rfl) ?_
      refine lv_aload_n hx hb dX11_isFoe_35 rfl (lv_at hl 0 rfl) ?_
      refine va_get (D := D) (ci := 11) (C := RX11) (T := TX11) (N := 29) hx hb hts iw_X11_isFoe_X11 hown hK hP 0 rfl rfl 14 (by decide) (hts (.fieldLink RX11 33 "KingTableModel" "on" "[I") (List.mem_cons_of_mem _ (List.mem_append_left _ (List.Mem.head _)))) (fun _ h9 => h9) rfl dX11_isFoe_36 ?_
      refine lv_iload_n hx hb dX11_isFoe_39 rfl (lv_at hl 2 rfl) ?_
      have hi_2 : vp_in p2 81 := by exact kt_in (by omega) (by omega)
      refine va_iald hx hb hK hP 1 0 rfl rfl hi_2 dX11_isFoe_40 ?_
      refine lv_topi (fun a_40 ea_40 => ?_)
      have ra_40 := hfo.get hi_2
      rw [← ea_40] at ra_40
      have hq40 : a_40.toInt = a_12.toInt := by rw [ea_40, ea_12]
      refine kt_pi (wc := [(mx, .inr (11, [.int ml, .int mw, .ref ms, .int mgl, .int mhd, .int mre, .int mag, .int mkt, .int mho, .int mpc, .int msd, .int mki, .ref mk, .ref ma, .ref mo, .ref mg, .ref mm, .ref mt, .int mdn, .int mun, .ref mn, .int mtk, .ref me, .ref mq, .int msv, .ref mwo, .ref md, .ref mf, .ref mr])), (mk, .inl (cI, 40, .inl fk))]) [0, 3] hP hD hS hA rfl (by decide) (fun hPc hDc => va_runV (As := [.int a_40]) (rest := []) ⟨hx, hb, hml, hown, hts⟩ (c_X11_sideOfE l D cI cZ cB H.size mx ms mk ma mo mg mm mt mn me mq mwo md mf mr ml mw mgl mhd mre mag mkt mho mpc msd mki mdn mun mtk msv fk a_40 (by first | assumption | omega | rfl | decide)) (cwV 1 hts gX11_isFoe_X11_sideOf rfl rfl rfl (by decide +kernel) ⟨Nat.le_of_ble_eq_true rfl, Nat.le_of_ble_eq_true rfl⟩) (kt_preV hN hK hPc hDc 0 (ci := 11) (q := (RX11, TX11, 29)) rfl rfl) rfl rfl hl.1 rfl (lv_room (Nat.le_of_ble_eq_true rfl)) dX11_isFoe_41 ⟨Nat.le_of_ble_eq_true rfl, Nat.le_of_ble_eq_true rfl⟩) (fun r_41 _ H locs hw_41 hP hS => ?_)
      rw [ea_40] at hw_41
      refine lv_aload_n hx hb dX11_isFoe_44 rfl (lv_at hl 0 rfl) ?_
      refine lv_iload_n hx hb dX11_isFoe_45 rfl (lv_at hl 1 rfl) ?_
      refine kt_pi (wc := [(mx, .inr (11, [.int ml, .int mw, .ref ms, .int mgl, .int mhd, .int mre, .int mag, .int mkt, .int mho, .int mpc, .int msd, .int mki, .ref mk, .ref ma, .ref mo, .ref mg, .ref mm, .ref mt, .int mdn, .int mun, .ref mn, .int mtk, .ref me, .ref mq, .int msv, .ref mwo, .ref md, .ref mf, .ref mr])), (mk, .inl (cI, 40, .inl fk))]) [0, 3] hP hD hS hA rfl (by decide) (fun hPc hDc => va_runV (As := [.int p1]) (rest := [.int r_41]) ⟨hx, hb, hml, hown, hts⟩ (c_X11_sideOfE l D cI cZ cB H.size mx ms mk ma mo mg mm mt mn me mq mwo md mf mr ml mw mgl mhd mre mag mkt mho mpc msd mki mdn mun mtk msv fk p1 (by first | assumption | omega | rfl | decide)) (cwV 1 hts gX11_isFoe_X11_sideOf rfl rfl rfl (by decide +kernel) ⟨Nat.le_of_ble_eq_true rfl, Nat.le_of_ble_eq_true rfl⟩) (kt_preV hN hK hPc hDc 0 (ci := 11) (q := (RX11, TX11, 29)) rfl rfl) rfl rfl hl.1 rfl (lv_room (Nat.le_of_ble_eq_true rfl)) dX11_isFoe_46 ⟨Nat.le_of_ble_eq_true rfl, Nat.le_of_ble_eq_true rfl⟩) (fun r_46 _ H locs hw_46 hP hS => ?_)
      refine lv_icmp_eq (tgt := 69) hx hb dX11_isFoe_49 (by decide) (fun c_49 => ?_) (fun c_49 => ?_)
      · have d_49 := c_49
        simp only [kt_lt, kt_le, kt_eq, kt_c0, kt_c1, kt_c2, kt_c3, kt_c4, kt_c8, kt_c9, kt_cm1, kt_c81, kt_c40, kt_c7, kt_c5, kt_c6, kt_c512, kt_c10, kt_c10000] at d_49
        refine lv_iconst (v := 0) hx hb dX11_isFoe_69 (by decide) ?_
        exact kt_rz () hx hb hr hlk hS dX11_isFoe_70 hP hD (by show kt_B (0 : Int32) (kt_foe fo fr fk mkt p1.toNatClampNeg p2.toInt); first
            | exact Or.inr ⟨rfl, fun h => h.1 (by omega)⟩
            | exact Or.inl ⟨rfl, by omega, Or.inl ⟨ea_12.symm.trans c_14, ea_22.symm.trans c_25⟩⟩
            | exact Or.inr ⟨rfl, fun h => h.2.elim (fun h1 => c_25 (ea_22.trans h1.2)) (fun h2 => h2.1 (ea_12.symm.trans c_14))⟩
            | exact Or.inl ⟨rfl, by omega, Or.inr ⟨fun h => c_14 (ea_12.trans h), fun h => c_49 ((kt_eq _ _).mpr (by rw [hw_41.1, hw_46.1]; exact h)), hw_59.t c_62⟩⟩
            | exact Or.inr ⟨rfl, fun h => h.2.elim (fun h1 => c_14 (ea_12.trans h1.1)) (fun h2 => h2.2.1 (by have h9 := congrArg Int32.toInt c_49; rw [hw_41.1, hw_46.1] at h9; exact h9))⟩
            | exact Or.inr ⟨rfl, fun h => h.2.elim (fun h1 => c_14 (ea_12.trans h1.1)) (fun h2 => (hw_59.f c_62) h2.2.2)⟩) rfl
      · have d_49 := c_49
        simp only [kt_lt, kt_le, kt_eq, kt_c0, kt_c1, kt_c2, kt_c3, kt_c4, kt_c8, kt_c9, kt_cm1, kt_c81, kt_c40, kt_c7, kt_c5, kt_c6, kt_c512, kt_c10, kt_c10000] at d_49
        refine lv_aload_n hx hb dX11_isFoe_52 rfl (lv_at hl 0 rfl) ?_
        refine lv_aload_n hx hb dX11_isFoe_53 rfl (lv_at hl 0 rfl) ?_
        refine va_get (D := D) (ci := 11) (C := RX11) (T := TX11) (N := 29) hx hb hts iw_X11_isFoe_X11 hown hK hP 0 rfl rfl 14 (by decide) (hts (.fieldLink RX11 33 "KingTableModel" "on" "[I") (List.mem_cons_of_mem _ (List.mem_append_left _ (List.Mem.head _)))) (fun _ h9 => h9) rfl dX11_isFoe_54 ?_
        refine lv_iload_n hx hb dX11_isFoe_57 rfl (lv_at hl 2 rfl) ?_
        have hi_3 : vp_in p2 81 := by exact kt_in (by omega) (by omega)
        refine va_iald hx hb hK hP 1 0 rfl rfl hi_3 dX11_isFoe_58 ?_
        refine lv_topi (fun a_58 ea_58 => ?_)
        have ra_58 := hfo.get hi_3
        rw [← ea_58] at ra_58
        have hq58 : a_58.toInt = a_12.toInt := by rw [ea_58, ea_12]
        refine kt_pi (wc := [(mx, .inr (11, [.int ml, .int mw, .ref ms, .int mgl, .int mhd, .int mre, .int mag, .int mkt, .int mho, .int mpc, .int msd, .int mki, .ref mk, .ref ma, .ref mo, .ref mg, .ref mm, .ref mt, .int mdn, .int mun, .ref mn, .int mtk, .ref me, .ref mq, .int msv, .ref mwo, .ref md, .ref mf, .ref mr])), (mk, .inl (cI, 40, .inl fk))]) [0, 3] hP hD hS hA rfl (by decide) (fun hPc hDc => va_runV (As := [.int a_58]) (rest := []) ⟨hx, hb, hml, hown, hts⟩ (c_X11_takesE l D cI cZ cB H.size mx ms mk ma mo mg mm mt mn me mq mwo md mf mr ml mw mgl mhd mre mag mkt mho mpc msd mki mdn mun mtk msv fk a_58 (by first | assumption | omega | rfl | decide)) (cwV 1 hts gX11_isFoe_X11_takes rfl rfl rfl (by decide +kernel) ⟨Nat.le_of_ble_eq_true rfl, Nat.le_of_ble_eq_true rfl⟩) (kt_preV hN hK hPc hDc 0 (ci := 11) (q := (RX11, TX11, 29)) rfl rfl) rfl rfl hl.1 rfl (lv_room (Nat.le_of_ble_eq_true rfl)) dX11_isFoe_59 ⟨Nat.le_of_ble_eq_true rfl, Nat.le_of_ble_eq_true rfl⟩) (fun r_59 _ H locs hw_59 hP hS => ?_)
        rw [ea_58] at hw_59
        refine lv_if_eq (tgt := 69) hx hb dX11_isFoe_62 (by decide) (fun c_62 => ?_) (fun c_62 => ?_)
        · have d_62 := c_62
          simp only [kt_lt, kt_le, kt_eq, kt_c0, kt_c1, kt_c2, kt_c3, kt_c4, kt_c8, kt_c9, kt_cm1, kt_c81, kt_c40, kt_c7, kt_c5, kt_c6, kt_c512, kt_c10, kt_c10000] at d_62
          refine lv_iconst (v := 0) hx hb dX11_isFoe_69 (by decide) ?_
          exact kt_rz () hx hb hr hlk hS dX11_isFoe_70 hP hD (by show kt_B (0 : Int32) (kt_foe fo fr fk mkt p1.toNatClampNeg p2.toInt); first
              | exact Or.inr ⟨rfl, fun h => h.1 (by omega)⟩
              | exact Or.inl ⟨rfl, by omega, Or.inl ⟨ea_12.symm.trans c_14, ea_22.symm.trans c_25⟩⟩
              | exact Or.inr ⟨rfl, fun h => h.2.elim (fun h1 => c_25 (ea_22.trans h1.2)) (fun h2 => h2.1 (ea_12.symm.trans c_14))⟩
              | exact Or.inl ⟨rfl, by omega, Or.inr ⟨fun h => c_14 (ea_12.trans h), fun h => c_49 ((kt_eq _ _).mpr (by rw [hw_41.1, hw_46.1]; exact h)), hw_59.t c_62⟩⟩
              | exact Or.inr ⟨rfl, fun h => h.2.elim (fun h1 => c_14 (ea_12.trans h1.1)) (fun h2 => h2.2.1 (by have h9 := congrArg Int32.toInt c_49; rw [hw_41.1, hw_46.1] at h9; exact h9))⟩
              | exact Or.inr ⟨rfl, fun h => h.2.elim (fun h1 => c_14 (ea_12.trans h1.1)) (fun h2 => (hw_59.f c_62) h2.2.2)⟩) rfl
        · have d_62 := c_62
          simp only [kt_lt, kt_le, kt_eq, kt_c0, kt_c1, kt_c2, kt_c3, kt_c4, kt_c8, kt_c9, kt_cm1, kt_c81, kt_c40, kt_c7, kt_c5, kt_c6, kt_c512, kt_c10, kt_c10000] at d_62
          refine lv_iconst (v := 1) hx hb dX11_isFoe_65 (by decide) ?_
          refine lv_goto (tgt := 70) hx hb dX11_isFoe_66 (by decide) ?_
          exact kt_rz () hx hb hr hlk hS dX11_isFoe_70 hP hD (by show kt_B (1 : Int32) (kt_foe fo fr fk mkt p1.toNatClampNeg p2.toInt); first
              | exact Or.inr ⟨rfl, fun h => h.1 (by omega)⟩
              | exact Or.inl ⟨rfl, by omega, Or.inl ⟨ea_12.symm.trans c_14, ea_22.symm.trans c_25⟩⟩
              | exact Or.inr ⟨rfl, fun h => h.2.elim (fun h1 => c_25 (ea_22.trans h1.2)) (fun h2 => h2.1 (ea_12.symm.trans c_14))⟩
              | exact Or.inl ⟨rfl, by omega, Or.inr ⟨fun h => c_14 (ea_12.trans h), fun h => c_49 ((kt_eq _ _).mpr (by rw [hw_41.1, hw_46.1]; exact h)), hw_59.t c_62⟩⟩
              | exact Or.inr ⟨rfl, fun h => h.2.elim (fun h1 => c_14 (ea_12.trans h1.1)) (fun h2 => h2.2.1 (by have h9 := congrArg Int32.toInt c_49; rw [hw_41.1, hw_46.1] at h9; exact h9))⟩
              | exact Or.inr ⟨rfl, fun h => h.2.elim (fun h1 => c_14 (ea_12.trans h1.1)) (fun h2 => (hw_59.f c_62) h2.2.2)⟩) rfl
    · have d_14 := c_14
      simp only [kt_lt, kt_le, kt_eq, kt_c0, kt_c1, kt_c2, kt_c3, kt_c4, kt_c8, kt_c9, kt_cm1, kt_c81, kt_c40, kt_c7, kt_c5, kt_c6, kt_c512, kt_c10, kt_c10000] at d_14
      refine lv_aload_n hx hb dX11_isFoe_17 rfl (lv_at hl 0 rfl) ?_
      refine va_get (D := D) (ci := 11) (C := RX11) (T := TX11) (N := 29) hx hb hts iw_X11_isFoe_X11 hown hK hP 0 rfl rfl 15 (by decide) (hts (.fieldLink RX11 36 "KingTableModel" "ground" "[I") (List.mem_cons_of_mem _ (List.mem_append_left _ (List.mem_cons_of_mem _ (List.Mem.head _))))) (fun _ h9 => h9) rfl dX11_isFoe_18 ?_
      refine lv_iload_n hx hb dX11_isFoe_21 rfl (lv_at hl 2 rfl) ?_
      have hi_4 : vp_in p2 81 := by exact kt_in (by omega) (by omega)
      refine va_iald hx hb hK hP 2 0 rfl rfl hi_4 dX11_isFoe_22 ?_
      refine lv_topi (fun a_22 ea_22 => ?_)
      refine lv_bipush (v := 6) hx hb dX11_isFoe_23 (by decide) ?_
      refine lv_icmp_ne (tgt := 32) hx hb dX11_isFoe_25 (by decide) (fun c_25 => ?_) (fun c_25 => ?_)
      · have d_25 := c_25
        simp only [kt_lt, kt_le, kt_eq, kt_c0, kt_c1, kt_c2, kt_c3, kt_c4, kt_c8, kt_c9, kt_cm1, kt_c81, kt_c40, kt_c7, kt_c5, kt_c6, kt_c512, kt_c10, kt_c10000] at d_25
        refine lv_iconst (v := 0) hx hb dX11_isFoe_32 (by decide) ?_
        exact kt_rz () hx hb hr hlk hS dX11_isFoe_33 hP hD (by show kt_B (0 : Int32) (kt_foe fo fr fk mkt p1.toNatClampNeg p2.toInt); first
            | exact Or.inr ⟨rfl, fun h => h.1 (by omega)⟩
            | exact Or.inl ⟨rfl, by omega, Or.inl ⟨ea_12.symm.trans c_14, ea_22.symm.trans c_25⟩⟩
            | exact Or.inr ⟨rfl, fun h => h.2.elim (fun h1 => c_25 (ea_22.trans h1.2)) (fun h2 => h2.1 (ea_12.symm.trans c_14))⟩
            | exact Or.inl ⟨rfl, by omega, Or.inr ⟨fun h => c_14 (ea_12.trans h), fun h => c_49 ((kt_eq _ _).mpr (by rw [hw_41.1, hw_46.1]; exact h)), hw_59.t c_62⟩⟩
            | exact Or.inr ⟨rfl, fun h => h.2.elim (fun h1 => c_14 (ea_12.trans h1.1)) (fun h2 => h2.2.1 (by have h9 := congrArg Int32.toInt c_49; rw [hw_41.1, hw_46.1] at h9; exact h9))⟩
            | exact Or.inr ⟨rfl, fun h => h.2.elim (fun h1 => c_14 (ea_12.trans h1.1)) (fun h2 => (hw_59.f c_62) h2.2.2)⟩) rfl
      · have d_25 := c_25
        simp only [kt_lt, kt_le, kt_eq, kt_c0, kt_c1, kt_c2, kt_c3, kt_c4, kt_c8, kt_c9, kt_cm1, kt_c81, kt_c40, kt_c7, kt_c5, kt_c6, kt_c512, kt_c10, kt_c10000] at d_25
        refine lv_iconst (v := 1) hx hb dX11_isFoe_28 (by decide) ?_
        refine lv_goto (tgt := 33) hx hb dX11_isFoe_29 (by decide) ?_
        exact kt_rz () hx hb hr hlk hS dX11_isFoe_33 hP hD (by show kt_B (1 : Int32) (kt_foe fo fr fk mkt p1.toNatClampNeg p2.toInt); first
            | exact Or.inr ⟨rfl, fun h => h.1 (by omega)⟩
            | exact Or.inl ⟨rfl, by omega, Or.inl ⟨ea_12.symm.trans c_14, ea_22.symm.trans c_25⟩⟩
            | exact Or.inr ⟨rfl, fun h => h.2.elim (fun h1 => c_25 (ea_22.trans h1.2)) (fun h2 => h2.1 (ea_12.symm.trans c_14))⟩
            | exact Or.inl ⟨rfl, by omega, Or.inr ⟨fun h => c_14 (ea_12.trans h), fun h => c_49 ((kt_eq _ _).mpr (by rw [hw_41.1, hw_46.1]; exact h)), hw_59.t c_62⟩⟩
            | exact Or.inr ⟨rfl, fun h => h.2.elim (fun h1 => c_14 (ea_12.trans h1.1)) (fun h2 => h2.2.1 (by have h9 := congrArg Int32.toInt c_49; rw [hw_41.1, hw_46.1] at h9; exact h9))⟩
            | exact Or.inr ⟨rfl, fun h => h.2.elim (fun h1 => c_14 (ea_12.trans h1.1)) (fun h2 => (hw_59.f c_62) h2.2.2)⟩) rfl
  · have d_2 := c_2
    simp only [kt_lt, kt_le, kt_eq, kt_c0, kt_c1, kt_c2, kt_c3, kt_c4, kt_c8, kt_c9, kt_cm1, kt_c81, kt_c40, kt_c7, kt_c5, kt_c6, kt_c512, kt_c10, kt_c10000] at d_2
    refine lv_iconst (v := 0) hx hb dX11_isFoe_5 (by decide) ?_
    exact kt_rz () hx hb hr hlk hS dX11_isFoe_6 hP hD (by show kt_B (0 : Int32) (kt_foe fo fr fk mkt p1.toNatClampNeg p2.toInt); first
        | exact Or.inr ⟨rfl, fun h => h.1 (by omega)⟩
        | exact Or.inl ⟨rfl, by omega, Or.inl ⟨ea_12.symm.trans c_14, ea_22.symm.trans c_25⟩⟩
        | exact Or.inr ⟨rfl, fun h => h.2.elim (fun h1 => c_25 (ea_22.trans h1.2)) (fun h2 => h2.1 (ea_12.symm.trans c_14))⟩
        | exact Or.inl ⟨rfl, by omega, Or.inr ⟨fun h => c_14 (ea_12.trans h), fun h => c_49 ((kt_eq _ _).mpr (by rw [hw_41.1, hw_46.1]; exact h)), hw_59.t c_62⟩⟩
        | exact Or.inr ⟨rfl, fun h => h.2.elim (fun h1 => c_14 (ea_12.trans h1.1)) (fun h2 => h2.2.1 (by have h9 := congrArg Int32.toInt c_49; rw [hw_41.1, hw_46.1] at h9; exact h9))⟩
        | exact Or.inr ⟨rfl, fun h => h.2.elim (fun h1 => c_14 (ea_12.trans h1.1)) (fun h2 => (hw_59.f c_62) h2.2.2)⟩) rfl

set_option maxHeartbeats 4000000 in
set_option maxRecDepth 100000 in
theorem c_X11_isTakenE (l : Launch) (D : va_G) (cI cZ cB : ClassId) (sz : Nat) (mx : Nat) (ms : Nat) (mk : Nat) (ma : Nat) (mo : Nat) (mg : Nat) (mm : Nat) (mt : Nat) (mn : Nat) (me : Nat) (mq : Nat) (mwo : Nat) (md : Nat) (mf : Nat) (mr : Nat) (ml : Int32) (mw : Int32) (mgl : Int32) (mhd : Int32) (mre : Int32) (mag : Int32) (mkt : Int32) (mho : Int32) (mpc : Int32) (msd : Int32) (mki : Int32) (mdn : Int32) (mun : Int32) (mtk : Int32) (msv : Int32) (P_ : Nat) (fa : Nat → Int32) (fo : Nat → Int32) (fr : Nat → Int32) (fk : Nat → Int32) (p1 : Int32) (p2 : Int32) (hml_ : 2 ≤ ml.toInt ∧ ml.toInt ≤ 9) (hmw : 2 ≤ mw.toInt ∧ mw.toInt ≤ 9) (hpc : (P_ : Int) = mpc.toInt ∧ P_ ≤ 40) (hfa : kt_r fa P_ (-1) (ml.toInt * mw.toInt - 1)) (hfo : kt_r fo 81 (-1) ((P_ : Int) - 1)) (hp1 : 0 ≤ p1.toInt ∧ p1.toInt < (P_ : Int)) (hon : 0 ≤ (fa p1.toNatClampNeg).toInt) : kt_Mi l yX11_isTaken wsX11_isTaken { frames := 2, cells := 0, slots := 0, locals := 43 } D (kt_ty cI cZ cB) [.ref mx, .int p1, .int p2] sz [(mx, .inr (11, [.int ml, .int mw, .ref ms, .int mgl, .int mhd, .int mre, .int mag, .int mkt, .int mho, .int mpc, .int msd, .int mki, .ref mk, .ref ma, .ref mo, .ref mg, .ref mm, .ref mt, .int mdn, .int mun, .ref mn, .int mtk, .ref me, .ref mq, .int msv, .ref mwo, .ref md, .ref mf, .ref mr])), (ma, .inl (cI, 40, .inl fa)), (mo, .inl (cI, 81, .inl fo)), (mg, .inl (cI, 81, .inl fr)), (mk, .inl (cI, 40, .inl fk))] (fun (r : Int32) (u : Unit) => kt_B r (kt_tkn fo fr fk mkt mhd mw.toInt ml.toInt p1.toNatClampNeg (fa p1.toNatClampNeg).toInt p2.toInt)) (fun (u : Unit) => [(mx, .inr (11, [.int ml, .int mw, .ref ms, .int mgl, .int mhd, .int mre, .int mag, .int mkt, .int mho, .int mpc, .int msd, .int mki, .ref mk, .ref ma, .ref mo, .ref mg, .ref mm, .ref mt, .int mdn, .int mun, .ref mn, .int mtk, .ref me, .ref mq, .int msv, .ref mwo, .ref md, .ref mf, .ref mr])), (ma, .inl (cI, 40, .inl fa)), (mo, .inl (cI, 81, .inl fo)), (mg, .inl (cI, 81, .inl fr)), (mk, .inl (cI, 40, .inl fk))]) 0 0 := by
  refine kt_Mi.of (cc := cX11_isTaken) (maxL := 5) (ret := some .boolean) (by decide) rfl (Nat.le_of_ble_eq_true rfl) ?_
  intro p e s m below meth c A ls H hAt hP hD hS hl
  obtain ⟨hx, hb, hr, hml, hown, hts, hN, hK, hlk, hnm, hA⟩ := hAt
  have hl : lv_has ls 5 [(0, .ref mx), (1, .int p1), (2, .int p2)] := hl
  have hown : s.vm.findClass RX11 = some m.cls := hown
  have hsb := kt_mulb hml_ hmw
  have hxr := hfa.get (kt_in (x := p1) (n := P_) (by omega) (by omega))
  refine lv_aload_n hx hb dX11_isTaken_0 rfl (lv_at hl 0 rfl) ?_
  refine va_get (D := D) (ci := 11) (C := RX11) (T := TX11) (N := 29) hx hb hts iw_X11_isTaken_X11 hown hK hP 0 rfl rfl 12 (by decide) (hts (.fieldLink RX11 27 "KingTableModel" "kind" "[I") (kt_wp_X11_isTaken__X11_isTaken_r1 kt_wm0)) (fun _ h9 => h9) rfl dX11_isTaken_1 ?_
  refine lv_iload_n hx hb dX11_isTaken_4 rfl (lv_at hl 1 rfl) ?_
  have hi_1 : vp_in p1 40 := by exact kt_in (by omega) (by omega)
  refine va_iald hx hb hK hP 4 0 rfl rfl hi_1 dX11_isTaken_5 ?_
  refine lv_topi (fun a_5 ea_5 => ?_)
  refine lv_iconst (v := 4) hx hb dX11_isTaken_6 (by decide) ?_
  refine kt_join (σ := Unit) 46 5 (fun u => [(mx, .inr (11, [.int ml, .int mw, .ref ms, .int mgl, .int mhd, .int mre, .int mag, .int mkt, .int mho, .int mpc, .int msd, .int mki, .ref mk, .ref ma, .ref mo, .ref mg, .ref mm, .ref mt, .int mdn, .int mun, .ref mn, .int mtk, .ref me, .ref mq, .int msv, .ref mwo, .ref md, .ref mf, .ref mr])), (ma, .inl (cI, 40, .inl fa)), (mo, .inl (cI, 81, .inl fo)), (mg, .inl (cI, 81, .inl fr)), (mk, .inl (cI, 40, .inl fk))]) (fun u => [(0, .ref mx), (1, .int p1), (2, .int p2)]) (fun u => []) (fun u => kt_cap fk mhd p1.toNatClampNeg) (D := D) (A := A) (H0 := s.heap) (fun u hI H locs hP hD hS ls hl => ?_) (fun j_46 => ?_)
  · have hP : va_P D vwCl [(mx, .inr (11, [.int ml, .int mw, .ref ms, .int mgl, .int mhd, .int mre, .int mag, .int mkt, .int mho, .int mpc, .int msd, .int mki, .ref mk, .ref ma, .ref mo, .ref mg, .ref mm, .ref mt, .int mdn, .int mun, .ref mn, .int mtk, .ref me, .ref mq, .int msv, .ref mwo, .ref md, .ref mf, .ref mr])), (ma, .inl (cI, 40, .inl fa)), (mo, .inl (cI, 81, .inl fo)), (mg, .inl (cI, 81, .inl fr)), (mk, .inl (cI, 40, .inl fk))] H := hP
    have hD : va_D A [(mx, .inr (11, [.int ml, .int mw, .ref ms, .int mgl, .int mhd, .int mre, .int mag, .int mkt, .int mho, .int mpc, .int msd, .int mki, .ref mk, .ref ma, .ref mo, .ref mg, .ref mm, .ref mt, .int mdn, .int mun, .ref mn, .int mtk, .ref me, .ref mq, .int msv, .ref mwo, .ref md, .ref mf, .ref mr])), (ma, .inl (cI, 40, .inl fa)), (mo, .inl (cI, 81, .inl fo)), (mg, .inl (cI, 81, .inl fr)), (mk, .inl (cI, 40, .inl fk))] := hD
    have hl : lv_has ls 5 [(0, .ref mx), (1, .int p1), (2, .int p2)] := hl
    have hI : kt_cap fk mhd p1.toNatClampNeg := hI
    have hcp := hI
    refine lv_iconst (v := 1) hx hb dX11_isTaken_46 (by decide) ?_
    refine lv_istore_n (lv' := [(3, .int 1), (0, .ref mx), (1, .int p1), (2, .int p2)]) hx hb dX11_isTaken_47 rfl hl (by decide) rfl (fun ls hl => ?_)
    refine lv_iconst (v := 0) hx hb dX11_isTaken_48 (by decide) ?_
    refine lv_istore (lv' := [(4, .int 0), (3, .int 1), (0, .ref mx), (1, .int p1), (2, .int p2)]) hx hb dX11_isTaken_49 hl (by decide) rfl (fun ls hl => ?_)
    refine kt_loop (σ := Nat × Int32) 51 5 (fun u => [(mx, .inr (11, [.int ml, .int mw, .ref ms, .int mgl, .int mhd, .int mre, .int mag, .int mkt, .int mho, .int mpc, .int msd, .int mki, .ref mk, .ref ma, .ref mo, .ref mg, .ref mm, .ref mt, .int mdn, .int mun, .ref mn, .int mtk, .ref me, .ref mq, .int msv, .ref mwo, .ref md, .ref mf, .ref mr])), (ma, .inl (cI, 40, .inl fa)), (mo, .inl (cI, 81, .inl fo)), (mg, .inl (cI, 81, .inl fr)), (mk, .inl (cI, 40, .inl fk))]) (fun u => [(4, .int (nI u.1)), (3, .int u.2), (0, .ref mx), (1, .int p1), (2, .int p2)]) (fun n u => (u.1 ≤ 4 ∧ 4 < u.1 + n) ∧ kt_B u.2 (∀ b : Nat, b < u.1 → kt_foe fo fr fk mkt p1.toNatClampNeg (kt_al (fa p1.toNatClampNeg).toInt mw.toInt ml.toInt (b : Int) 1))) (fun u h => by omega) (fun n_51 ih_51 u hI H locs hP hD hS ls hl => ?_) (5) (0, (1 : Int32)) (by show (0 ≤ 4 ∧ 4 < 0 + 5) ∧ kt_B (1 : Int32) (∀ b : Nat, b < 0 → kt_foe fo fr fk mkt p1.toNatClampNeg (kt_al (fa p1.toNatClampNeg).toInt mw.toInt ml.toInt (b : Int) 1)); exact ⟨by decide, Or.inl ⟨rfl, fun b hb => absurd hb (Nat.not_lt_zero b)⟩⟩) hP hD hS (lv_sub hl [0, 1, 2, 3, 4] rfl)
    obtain ⟨k, cz⟩ := u
    have hP : va_P D vwCl [(mx, .inr (11, [.int ml, .int mw, .ref ms, .int mgl, .int mhd, .int mre, .int mag, .int mkt, .int mho, .int mpc, .int msd, .int mki, .ref mk, .ref ma, .ref mo, .ref mg, .ref mm, .ref mt, .int mdn, .int mun, .ref mn, .int mtk, .ref me, .ref mq, .int msv, .ref mwo, .ref md, .ref mf, .ref mr])), (ma, .inl (cI, 40, .inl fa)), (mo, .inl (cI, 81, .inl fo)), (mg, .inl (cI, 81, .inl fr)), (mk, .inl (cI, 40, .inl fk))] H := hP
    have hD : va_D A [(mx, .inr (11, [.int ml, .int mw, .ref ms, .int mgl, .int mhd, .int mre, .int mag, .int mkt, .int mho, .int mpc, .int msd, .int mki, .ref mk, .ref ma, .ref mo, .ref mg, .ref mm, .ref mt, .int mdn, .int mun, .ref mn, .int mtk, .ref me, .ref mq, .int msv, .ref mwo, .ref md, .ref mf, .ref mr])), (ma, .inl (cI, 40, .inl fa)), (mo, .inl (cI, 81, .inl fo)), (mg, .inl (cI, 81, .inl fr)), (mk, .inl (cI, 40, .inl fk))] := hD
    have hl : lv_has ls 5 [(4, .int (nI k)), (3, .int cz), (0, .ref mx), (1, .int p1), (2, .int p2)] := hl
    have hI : (k ≤ 4 ∧ 4 < k + (n_51 + 1)) ∧ kt_B cz (∀ b : Nat, b < k → kt_foe fo fr fk mkt p1.toNatClampNeg (kt_al (fa p1.toNatClampNeg).toInt mw.toInt ml.toInt (b : Int) 1)) := hI
    obtain ⟨hkb, hcz⟩ := hI
    have hk0 := kt_nI (n := k) (by omega)
    refine lv_iload hx hb dX11_isTaken_51 (lv_at hl 0 rfl) ?_
    refine lv_iconst (v := 4) hx hb dX11_isTaken_53 (by decide) ?_
    refine lv_icmp_ge (tgt := 94) hx hb dX11_isTaken_54 (by decide) (fun c_54 => ?_) (fun c_54 => ?_)
    · have d_54 := c_54
      simp only [kt_lt, kt_le, kt_eq, kt_c0, kt_c1, kt_c2, kt_c3, kt_c4, kt_c8, kt_c9, kt_cm1, kt_c81, kt_c40, kt_c7, kt_c5, kt_c6, kt_c512, kt_c10, kt_c10000] at d_54
      refine lv_iload_n hx hb dX11_isTaken_94 rfl (lv_at hl 1 rfl) ?_
      exact kt_rz () hx hb hr hlk hS dX11_isTaken_95 hP hD (by show kt_B cz (kt_tkn fo fr fk mkt mhd mw.toInt ml.toInt p1.toNatClampNeg (fa p1.toNatClampNeg).toInt p2.toInt); first
          | exact hw_42.iff ⟨fun h => Or.inl ⟨hnc, h⟩, fun h => h.elim (fun h1 => h1.2) (fun h2 => absurd h2.1 hnc)⟩
          | exact hcz.iff ⟨fun h => Or.inr ⟨hcp, fun b hb => h b (by omega)⟩, fun h b hb => h.elim (fun h1 => absurd hcp h1.1) (fun h2 => h2.2 b (by omega))⟩) (by exact hcz.z)
    · have d_54 := c_54
      simp only [kt_lt, kt_le, kt_eq, kt_c0, kt_c1, kt_c2, kt_c3, kt_c4, kt_c8, kt_c9, kt_cm1, kt_c81, kt_c40, kt_c7, kt_c5, kt_c6, kt_c512, kt_c10, kt_c10000] at d_54
      refine lv_iload_n hx hb dX11_isTaken_57 rfl (lv_at hl 1 rfl) ?_
      refine kt_join (σ := Int32) 87 5 (fun u => [(mx, .inr (11, [.int ml, .int mw, .ref ms, .int mgl, .int mhd, .int mre, .int mag, .int mkt, .int mho, .int mpc, .int msd, .int mki, .ref mk, .ref ma, .ref mo, .ref mg, .ref mm, .ref mt, .int mdn, .int mun, .ref mn, .int mtk, .ref me, .ref mq, .int msv, .ref mwo, .ref md, .ref mf, .ref mr])), (ma, .inl (cI, 40, .inl fa)), (mo, .inl (cI, 81, .inl fo)), (mg, .inl (cI, 81, .inl fr)), (mk, .inl (cI, 40, .inl fk))]) (fun u => [(4, .int (nI k)), (3, .int cz), (0, .ref mx), (1, .int p1), (2, .int p2)]) (fun u => [.int u]) (fun u => kt_B u (∀ b : Nat, b < k + 1 → kt_foe fo fr fk mkt p1.toNatClampNeg (kt_al (fa p1.toNatClampNeg).toInt mw.toInt ml.toInt (b : Int) 1))) (D := D) (A := A) (H0 := s.heap) (fun u hI H locs hP hD hS ls hl => ?_) (fun j_87 => ?_)
      · obtain ⟨v, rfl⟩ : ∃ z, z = u := ⟨_, rfl⟩
        have hP : va_P D vwCl [(mx, .inr (11, [.int ml, .int mw, .ref ms, .int mgl, .int mhd, .int mre, .int mag, .int mkt, .int mho, .int mpc, .int msd, .int mki, .ref mk, .ref ma, .ref mo, .ref mg, .ref mm, .ref mt, .int mdn, .int mun, .ref mn, .int mtk, .ref me, .ref mq, .int msv, .ref mwo, .ref md, .ref mf, .ref mr])), (ma, .inl (cI, 40, .inl fa)), (mo, .inl (cI, 81, .inl fo)), (mg, .inl (cI, 81, .inl fr)), (mk, .inl (cI, 40, .inl fk))] H := hP
        have hD : va_D A [(mx, .inr (11, [.int ml, .int mw, .ref ms, .int mgl, .int mhd, .int mre, .int mag, .int mkt, .int mho, .int mpc, .int msd, .int mki, .ref mk, .ref ma, .ref mo, .ref mg, .ref mm, .ref mt, .int mdn, .int mun, .ref mn, .int mtk, .ref me, .ref mq, .int msv, .ref mwo, .ref md, .ref mf, .ref mr])), (ma, .inl (cI, 40, .inl fa)), (mo, .inl (cI, 81, .inl fo)), (mg, .inl (cI, 81, .inl fr)), (mk, .inl (cI, 40, .inl fk))] := hD
        have hl : lv_has ls 5 [(4, .int (nI k)), (3, .int cz), (0, .ref mx), (1, .int p1), (2, .int p2)] := hl
        have hI : kt_B v (∀ b : Nat, b < k + 1 → kt_foe fo fr fk mkt p1.toNatClampNeg (kt_al (fa p1.toNatClampNeg).toInt mw.toInt ml.toInt (b : Int) 1)) := hI
        have hv := hI
        refine lv_istore_n (lv' := [(3, .int v), (4, .int (nI k)), (0, .ref mx), (1, .int p1), (2, .int p2)]) hx hb dX11_isTaken_87 rfl hl (by decide) rfl (fun ls hl => ?_)
        refine lv_iinc (v := nI (k + 1)) (lv' := [(4, .int (nI (k + 1))), (3, .int v), (0, .ref mx), (1, .int p1), (2, .int p2)]) hx hb dX11_isTaken_88 hl (k := 1) rfl (nI_1 _) (by decide) rfl (fun ls hl => ?_)
        refine lv_goto (tgt := 51) hx hb dX11_isTaken_91 (by decide) ?_
        exact ih_51 ((k + 1), v) (by show ((k + 1) ≤ 4 ∧ 4 < (k + 1) + n_51) ∧ kt_B v (∀ b : Nat, b < (k + 1) → kt_foe fo fr fk mkt p1.toNatClampNeg (kt_al (fa p1.toNatClampNeg).toInt mw.toInt ml.toInt (b : Int) 1)); exact ⟨by omega, hv⟩) H _ hP hD hS ls (lv_sub hl [0, 1, 2, 3, 4] rfl)
      refine lv_if_eq (tgt := 86) hx hb dX11_isTaken_58 (by decide) (fun c_58 => ?_) (fun c_58 => ?_)
      · have d_58 := c_58
        simp only [kt_lt, kt_le, kt_eq, kt_c0, kt_c1, kt_c2, kt_c3, kt_c4, kt_c8, kt_c9, kt_cm1, kt_c81, kt_c40, kt_c7, kt_c5, kt_c6, kt_c512, kt_c10, kt_c10000] at d_58
        refine lv_iconst (v := 0) hx hb dX11_isTaken_86 (by decide) ?_
        exact j_87 (0 : Int32) (by show kt_B (0 : Int32) (∀ b : Nat, b < k + 1 → kt_foe fo fr fk mkt p1.toNatClampNeg (kt_al (fa p1.toNatClampNeg).toInt mw.toInt ml.toInt (b : Int) 1)); first
                      | exact Or.inr ⟨rfl, fun h => (hcz.f c_58) (fun b hb => h b (by omega))⟩
                      | exact Or.inr ⟨rfl, fun h => (hw_76.f c_79) (h k (by omega))⟩
                      | exact Or.inl ⟨rfl, fun b hb => if e : b = k then (by rw [e]; exact hw_76.t c_79) else (hcz.t c_58) b (by omega)⟩) H _ hP hD hS ls (lv_sub hl [0, 1, 2, 3, 4] rfl)
      · have d_58 := c_58
        simp only [kt_lt, kt_le, kt_eq, kt_c0, kt_c1, kt_c2, kt_c3, kt_c4, kt_c8, kt_c9, kt_cm1, kt_c81, kt_c40, kt_c7, kt_c5, kt_c6, kt_c512, kt_c10, kt_c10000] at d_58
        refine lv_aload_n hx hb dX11_isTaken_61 rfl (lv_at hl 2 rfl) ?_
        refine lv_iload_n hx hb dX11_isTaken_62 rfl (lv_at hl 3 rfl) ?_
        refine lv_aload_n hx hb dX11_isTaken_63 rfl (lv_at hl 2 rfl) ?_
        refine lv_aload_n hx hb dX11_isTaken_64 rfl (lv_at hl 2 rfl) ?_
        refine va_get (D := D) (ci := 11) (C := RX11) (T := TX11) (N := 29) hx hb hts iw_X11_isTaken_X11 hown hK hP 0 rfl rfl 13 (by decide) (hts (.fieldLink RX11 30 "KingTableModel" "at" "[I") (kt_wp_X11_isTaken__X11_isTaken_r1 kt_wm2)) (fun _ h9 => h9) rfl dX11_isTaken_65 ?_
        refine lv_iload_n hx hb dX11_isTaken_68 rfl (lv_at hl 3 rfl) ?_
        have hi_2 : vp_in p1 40 := by exact kt_in (by omega) (by omega)
        refine va_iald hx hb hK hP 1 0 rfl rfl hi_2 dX11_isTaken_69 ?_
        refine lv_topi (fun a_69 ea_69 => ?_)
        have ra_69 := hfa.get (kt_in (x := p1) (n := P_) (by omega) (by omega))
        rw [← ea_69] at ra_69
        have hon7 := hon
        rw [← ea_69] at hon7
        refine lv_iload hx hb dX11_isTaken_70 (lv_at hl 0 rfl) ?_
        refine lv_iconst (v := 1) hx hb dX11_isTaken_72 (by decide) ?_
        refine kt_pi (wc := [(mx, .inr (11, [.int ml, .int mw, .ref ms, .int mgl, .int mhd, .int mre, .int mag, .int mkt, .int mho, .int mpc, .int msd, .int mki, .ref mk, .ref ma, .ref mo, .ref mg, .ref mm, .ref mt, .int mdn, .int mun, .ref mn, .int mtk, .ref me, .ref mq, .int msv, .ref mwo, .ref md, .ref mf, .ref mr]))]) [0] hP hD hS hA rfl (by decide) (fun hPc hDc => va_runV (As := [.int a_69, .int (nI k), .int 1]) (rest := [.int p1, .ref mx]) ⟨hx, hb, hml, hown, hts⟩ (c_X11_alongE l D cI cZ cB H.size mx ms mk ma mo mg mm mt mn me mq mwo md mf mr ml mw mgl mhd mre mag mkt mho mpc msd mki mdn mun mtk msv a_69 (nI k) 1 hml_ hmw (by omega) (by decide)) (cwV 3 hts gX11_isTaken_X11_along rfl rfl rfl (by decide +kernel) ⟨Nat.le_of_ble_eq_true rfl, Nat.le_of_ble_eq_true rfl⟩) (kt_preV hN hK hPc hDc 0 (ci := 11) (q := (RX11, TX11, 29)) rfl rfl) rfl rfl hl.1 rfl (lv_room (Nat.le_of_ble_eq_true rfl)) dX11_isTaken_73 ⟨Nat.le_of_ble_eq_true rfl, Nat.le_of_ble_eq_true rfl⟩) (fun r_73 _ H locs hw_73 hP hS => ?_)
        rw [ea_69, kt_c1, hk0] at hw_73
        have hal := kt_al_r (a := (k : Int)) (n := 1) hmw hml_ (show 0 ≤ (fa p1.toNatClampNeg).toInt ∧ (fa p1.toNatClampNeg).toInt < ml.toInt * mw.toInt by omega) (by omega)
        rw [← hw_73] at hal
        refine kt_pi (wc := [(mx, .inr (11, [.int ml, .int mw, .ref ms, .int mgl, .int mhd, .int mre, .int mag, .int mkt, .int mho, .int mpc, .int msd, .int mki, .ref mk, .ref ma, .ref mo, .ref mg, .ref mm, .ref mt, .int mdn, .int mun, .ref mn, .int mtk, .ref me, .ref mq, .int msv, .ref mwo, .ref md, .ref mf, .ref mr])), (mo, .inl (cI, 81, .inl fo)), (mg, .inl (cI, 81, .inl fr)), (mk, .inl (cI, 40, .inl fk))]) [0, 2, 3, 4] hP hD hS hA rfl (by decide) (fun hPc hDc => va_runV (As := [.int p1, .int r_73]) (rest := []) ⟨hx, hb, hml, hown, hts⟩ (c_X11_isFoeE l D cI cZ cB H.size mx ms mk ma mo mg mm mt mn me mq mwo md mf mr ml mw mgl mhd mre mag mkt mho mpc msd mki mdn mun mtk msv P_ fo fr fk p1 r_73 (by first | assumption | omega | rfl | decide) (by first | assumption | omega | rfl | decide) (by first | assumption | omega | rfl | decide) (by first | assumption | omega | rfl | decide)) (cwV 2 hts gX11_isTaken_X11_isFoe rfl rfl rfl (by decide +kernel) ⟨Nat.le_of_ble_eq_true rfl, Nat.le_of_ble_eq_true rfl⟩) (kt_preV hN hK hPc hDc 0 (ci := 11) (q := (RX11, TX11, 29)) rfl rfl) rfl rfl hl.1 rfl (lv_room (Nat.le_of_ble_eq_true rfl)) dX11_isTaken_76 ⟨Nat.le_of_ble_eq_true rfl, Nat.le_of_ble_eq_true rfl⟩) (fun r_76 _ H locs hw_76 hP hS => ?_)
        rw [hw_73] at hw_76
        refine lv_if_eq (tgt := 86) hx hb dX11_isTaken_79 (by decide) (fun c_79 => ?_) (fun c_79 => ?_)
        · have d_79 := c_79
          simp only [kt_lt, kt_le, kt_eq, kt_c0, kt_c1, kt_c2, kt_c3, kt_c4, kt_c8, kt_c9, kt_cm1, kt_c81, kt_c40, kt_c7, kt_c5, kt_c6, kt_c512, kt_c10, kt_c10000] at d_79
          refine lv_iconst (v := 0) hx hb dX11_isTaken_86 (by decide) ?_
          exact j_87 (0 : Int32) (by show kt_B (0 : Int32) (∀ b : Nat, b < k + 1 → kt_foe fo fr fk mkt p1.toNatClampNeg (kt_al (fa p1.toNatClampNeg).toInt mw.toInt ml.toInt (b : Int) 1)); first
                        | exact Or.inr ⟨rfl, fun h => (hcz.f c_58) (fun b hb => h b (by omega))⟩
                        | exact Or.inr ⟨rfl, fun h => (hw_76.f c_79) (h k (by omega))⟩
                        | exact Or.inl ⟨rfl, fun b hb => if e : b = k then (by rw [e]; exact hw_76.t c_79) else (hcz.t c_58) b (by omega)⟩) H _ hP hD hS ls (lv_sub hl [0, 1, 2, 3, 4] rfl)
        · have d_79 := c_79
          simp only [kt_lt, kt_le, kt_eq, kt_c0, kt_c1, kt_c2, kt_c3, kt_c4, kt_c8, kt_c9, kt_cm1, kt_c81, kt_c40, kt_c7, kt_c5, kt_c6, kt_c512, kt_c10, kt_c10000] at d_79
          refine lv_iconst (v := 1) hx hb dX11_isTaken_82 (by decide) ?_
          refine lv_goto (tgt := 87) hx hb dX11_isTaken_83 (by decide) ?_
          exact j_87 (1 : Int32) (by show kt_B (1 : Int32) (∀ b : Nat, b < k + 1 → kt_foe fo fr fk mkt p1.toNatClampNeg (kt_al (fa p1.toNatClampNeg).toInt mw.toInt ml.toInt (b : Int) 1)); first
                        | exact Or.inr ⟨rfl, fun h => (hcz.f c_58) (fun b hb => h b (by omega))⟩
                        | exact Or.inr ⟨rfl, fun h => (hw_76.f c_79) (h k (by omega))⟩
                        | exact Or.inl ⟨rfl, fun b hb => if e : b = k then (by rw [e]; exact hw_76.t c_79) else (hcz.t c_58) b (by omega)⟩) H _ hP hD hS ls (lv_sub hl [0, 1, 2, 3, 4] rfl)
  refine lv_icmp_eq (tgt := 46) hx hb dX11_isTaken_7 (by decide) (fun c_7 => ?_) (fun c_7 => ?_)
  · have d_7 := c_7
    simp only [kt_lt, kt_le, kt_eq, kt_c0, kt_c1, kt_c2, kt_c3, kt_c4, kt_c8, kt_c9, kt_cm1, kt_c81, kt_c40, kt_c7, kt_c5, kt_c6, kt_c512, kt_c10, kt_c10000] at d_7
    exact j_46 () (by show kt_cap fk mhd p1.toNatClampNeg; unfold kt_cap; first | exact Or.inl (ea_5.symm.trans c_7) | exact Or.inr ⟨ea_15.symm.trans c_17, c_25⟩) H _ hP hD hS ls (lv_sub hl [0, 1, 2] rfl)
  · have d_7 := c_7
    simp only [kt_lt, kt_le, kt_eq, kt_c0, kt_c1, kt_c2, kt_c3, kt_c4, kt_c8, kt_c9, kt_cm1, kt_c81, kt_c40, kt_c7, kt_c5, kt_c6, kt_c512, kt_c10, kt_c10000] at d_7
    refine lv_aload_n hx hb dX11_isTaken_10 rfl (lv_at hl 0 rfl) ?_
    refine va_get (D := D) (ci := 11) (C := RX11) (T := TX11) (N := 29) hx hb hts iw_X11_isTaken_X11 hown hK hP 0 rfl rfl 12 (by decide) (hts (.fieldLink RX11 27 "KingTableModel" "kind" "[I") (kt_wp_X11_isTaken__X11_isTaken_r1 kt_wm0)) (fun _ h9 => h9) rfl dX11_isTaken_11 ?_
    refine lv_iload_n hx hb dX11_isTaken_14 rfl (lv_at hl 1 rfl) ?_
    have hi_3 : vp_in p1 40 := by exact kt_in (by omega) (by omega)
    refine va_iald hx hb hK hP 4 0 rfl rfl hi_3 dX11_isTaken_15 ?_
    refine lv_topi (fun a_15 ea_15 => ?_)
    refine lv_iconst (v := 2) hx hb dX11_isTaken_16 (by decide) ?_
    refine lv_icmp_ne (tgt := 28) hx hb dX11_isTaken_17 (by decide) (fun c_17 => ?_) (fun c_17 => ?_)
    · have d_17 := c_17
      simp only [kt_lt, kt_le, kt_eq, kt_c0, kt_c1, kt_c2, kt_c3, kt_c4, kt_c8, kt_c9, kt_cm1, kt_c81, kt_c40, kt_c7, kt_c5, kt_c6, kt_c512, kt_c10, kt_c10000] at d_17
      have hnc : ¬ kt_cap fk mhd p1.toNatClampNeg := by
        intro h; unfold kt_cap at h; rw [← ea_5] at h; rcases h with h | h
        · exact c_7 h
        · first | exact c_17 ((ea_15.trans ea_5.symm).trans h.1) | exact c_25 h.2
      refine lv_aload_n hx hb dX11_isTaken_28 rfl (lv_at hl 0 rfl) ?_
      refine lv_iload_n hx hb dX11_isTaken_29 rfl (lv_at hl 1 rfl) ?_
      refine lv_aload_n hx hb dX11_isTaken_30 rfl (lv_at hl 0 rfl) ?_
      refine lv_aload_n hx hb dX11_isTaken_31 rfl (lv_at hl 0 rfl) ?_
      refine va_get (D := D) (ci := 11) (C := RX11) (T := TX11) (N := 29) hx hb hts iw_X11_isTaken_X11 hown hK hP 0 rfl rfl 13 (by decide) (hts (.fieldLink RX11 30 "KingTableModel" "at" "[I") (kt_wp_X11_isTaken__X11_isTaken_r1 kt_wm2)) (fun _ h9 => h9) rfl dX11_isTaken_32 ?_
      refine lv_iload_n hx hb dX11_isTaken_35 rfl (lv_at hl 1 rfl) ?_
      have hi_4 : vp_in p1 40 := by exact kt_in (by omega) (by omega)
      refine va_iald hx hb hK hP 1 0 rfl rfl hi_4 dX11_isTaken_36 ?_
      refine lv_topi (fun a_36 ea_36 => ?_)
      have ra_36 := hfa.get (kt_in (x := p1) (n := P_) (by omega) (by omega))
      rw [← ea_36] at ra_36
      have hon6 := hon
      rw [← ea_36] at hon6
      refine lv_iload_n hx hb dX11_isTaken_37 rfl (lv_at hl 2 rfl) ?_
      refine lv_iconst (v := 1) hx hb dX11_isTaken_38 (by decide) ?_
      refine kt_pi (wc := [(mx, .inr (11, [.int ml, .int mw, .ref ms, .int mgl, .int mhd, .int mre, .int mag, .int mkt, .int mho, .int mpc, .int msd, .int mki, .ref mk, .ref ma, .ref mo, .ref mg, .ref mm, .ref mt, .int mdn, .int mun, .ref mn, .int mtk, .ref me, .ref mq, .int msv, .ref mwo, .ref md, .ref mf, .ref mr]))]) [0] hP hD hS hA rfl (by decide) (fun hPc hDc => va_runV (As := [.int a_36, .int p2, .int 1]) (rest := [.int p1, .ref mx]) ⟨hx, hb, hml, hown, hts⟩ (c_X11_alongE l D cI cZ cB H.size mx ms mk ma mo mg mm mt mn me mq mwo md mf mr ml mw mgl mhd mre mag mkt mho mpc msd mki mdn mun mtk msv a_36 p2 1 hml_ hmw (by omega) (by decide)) (cwV 3 hts gX11_isTaken_X11_along rfl rfl rfl (by decide +kernel) ⟨Nat.le_of_ble_eq_true rfl, Nat.le_of_ble_eq_true rfl⟩) (kt_preV hN hK hPc hDc 0 (ci := 11) (q := (RX11, TX11, 29)) rfl rfl) rfl rfl hl.1 rfl (lv_room (Nat.le_of_ble_eq_true rfl)) dX11_isTaken_39 ⟨Nat.le_of_ble_eq_true rfl, Nat.le_of_ble_eq_true rfl⟩) (fun r_39 _ H locs hw_39 hP hS => ?_)
      rw [ea_36, kt_c1] at hw_39
      have hal := kt_al_r (a := p2.toInt) (n := 1) hmw hml_ (show 0 ≤ (fa p1.toNatClampNeg).toInt ∧ (fa p1.toNatClampNeg).toInt < ml.toInt * mw.toInt by omega) (by omega)
      rw [← hw_39] at hal
      refine kt_pi (wc := [(mx, .inr (11, [.int ml, .int mw, .ref ms, .int mgl, .int mhd, .int mre, .int mag, .int mkt, .int mho, .int mpc, .int msd, .int mki, .ref mk, .ref ma, .ref mo, .ref mg, .ref mm, .ref mt, .int mdn, .int mun, .ref mn, .int mtk, .ref me, .ref mq, .int msv, .ref mwo, .ref md, .ref mf, .ref mr])), (mo, .inl (cI, 81, .inl fo)), (mg, .inl (cI, 81, .inl fr)), (mk, .inl (cI, 40, .inl fk))]) [0, 2, 3, 4] hP hD hS hA rfl (by decide) (fun hPc hDc => va_runV (As := [.int p1, .int r_39]) (rest := []) ⟨hx, hb, hml, hown, hts⟩ (c_X11_isFoeE l D cI cZ cB H.size mx ms mk ma mo mg mm mt mn me mq mwo md mf mr ml mw mgl mhd mre mag mkt mho mpc msd mki mdn mun mtk msv P_ fo fr fk p1 r_39 (by first | assumption | omega | rfl | decide) (by first | assumption | omega | rfl | decide) (by first | assumption | omega | rfl | decide) (by first | assumption | omega | rfl | decide)) (cwV 2 hts gX11_isTaken_X11_isFoe rfl rfl rfl (by decide +kernel) ⟨Nat.le_of_ble_eq_true rfl, Nat.le_of_ble_eq_true rfl⟩) (kt_preV hN hK hPc hDc 0 (ci := 11) (q := (RX11, TX11, 29)) rfl rfl) rfl rfl hl.1 rfl (lv_room (Nat.le_of_ble_eq_true rfl)) dX11_isTaken_42 ⟨Nat.le_of_ble_eq_true rfl, Nat.le_of_ble_eq_true rfl⟩) (fun r_42 _ H locs hw_42 hP hS => ?_)
      rw [hw_39] at hw_42
      exact kt_rz () hx hb hr hlk hS dX11_isTaken_45 hP hD (by show kt_B r_42 (kt_tkn fo fr fk mkt mhd mw.toInt ml.toInt p1.toNatClampNeg (fa p1.toNatClampNeg).toInt p2.toInt); first
          | exact hw_42.iff ⟨fun h => Or.inl ⟨hnc, h⟩, fun h => h.elim (fun h1 => h1.2) (fun h2 => absurd h2.1 hnc)⟩
          | exact hcz.iff ⟨fun h => Or.inr ⟨hcp, fun b hb => h b (by omega)⟩, fun h b hb => h.elim (fun h1 => absurd hcp h1.1) (fun h2 => h2.2 b (by omega))⟩) (by exact hw_42.z)
    · have d_17 := c_17
      simp only [kt_lt, kt_le, kt_eq, kt_c0, kt_c1, kt_c2, kt_c3, kt_c4, kt_c8, kt_c9, kt_cm1, kt_c81, kt_c40, kt_c7, kt_c5, kt_c6, kt_c512, kt_c10, kt_c10000] at d_17
      refine lv_aload_n hx hb dX11_isTaken_20 rfl (lv_at hl 0 rfl) ?_
      refine va_get (D := D) (ci := 11) (C := RX11) (T := TX11) (N := 29) hx hb hts iw_X11_isTaken_X11 hown hK hP 0 rfl rfl 4 (by decide) (hts (.fieldLink RX11 20 "KingTableModel" "hard" "I") (kt_wp_X11_isTaken__X11_isTaken_r1 kt_wm1)) (fun _ h9 => h9) rfl dX11_isTaken_21 ?_
      refine lv_iconst (v := 4) hx hb dX11_isTaken_24 (by decide) ?_
      refine lv_icmp_eq (tgt := 46) hx hb dX11_isTaken_25 (by decide) (fun c_25 => ?_) (fun c_25 => ?_)
      · have d_25 := c_25
        simp only [kt_lt, kt_le, kt_eq, kt_c0, kt_c1, kt_c2, kt_c3, kt_c4, kt_c8, kt_c9, kt_cm1, kt_c81, kt_c40, kt_c7, kt_c5, kt_c6, kt_c512, kt_c10, kt_c10000] at d_25
        exact j_46 () (by show kt_cap fk mhd p1.toNatClampNeg; unfold kt_cap; first | exact Or.inl (ea_5.symm.trans c_7) | exact Or.inr ⟨ea_15.symm.trans c_17, c_25⟩) H _ hP hD hS ls (lv_sub hl [0, 1, 2] rfl)
      · have d_25 := c_25
        simp only [kt_lt, kt_le, kt_eq, kt_c0, kt_c1, kt_c2, kt_c3, kt_c4, kt_c8, kt_c9, kt_cm1, kt_c81, kt_c40, kt_c7, kt_c5, kt_c6, kt_c512, kt_c10, kt_c10000] at d_25
        have hnc : ¬ kt_cap fk mhd p1.toNatClampNeg := by
          intro h; unfold kt_cap at h; rw [← ea_5] at h; rcases h with h | h
          · exact c_7 h
          · first | exact c_17 ((ea_15.trans ea_5.symm).trans h.1) | exact c_25 h.2
        refine lv_aload_n hx hb dX11_isTaken_28 rfl (lv_at hl 0 rfl) ?_
        refine lv_iload_n hx hb dX11_isTaken_29 rfl (lv_at hl 1 rfl) ?_
        refine lv_aload_n hx hb dX11_isTaken_30 rfl (lv_at hl 0 rfl) ?_
        refine lv_aload_n hx hb dX11_isTaken_31 rfl (lv_at hl 0 rfl) ?_
        refine va_get (D := D) (ci := 11) (C := RX11) (T := TX11) (N := 29) hx hb hts iw_X11_isTaken_X11 hown hK hP 0 rfl rfl 13 (by decide) (hts (.fieldLink RX11 30 "KingTableModel" "at" "[I") (kt_wp_X11_isTaken__X11_isTaken_r1 kt_wm2)) (fun _ h9 => h9) rfl dX11_isTaken_32 ?_
        refine lv_iload_n hx hb dX11_isTaken_35 rfl (lv_at hl 1 rfl) ?_
        have hi_5 : vp_in p1 40 := by exact kt_in (by omega) (by omega)
        refine va_iald hx hb hK hP 1 0 rfl rfl hi_5 dX11_isTaken_36 ?_
        refine lv_topi (fun a_36 ea_36 => ?_)
        have ra_36 := hfa.get (kt_in (x := p1) (n := P_) (by omega) (by omega))
        rw [← ea_36] at ra_36
        have hon6 := hon
        rw [← ea_36] at hon6
        refine lv_iload_n hx hb dX11_isTaken_37 rfl (lv_at hl 2 rfl) ?_
        refine lv_iconst (v := 1) hx hb dX11_isTaken_38 (by decide) ?_
        refine kt_pi (wc := [(mx, .inr (11, [.int ml, .int mw, .ref ms, .int mgl, .int mhd, .int mre, .int mag, .int mkt, .int mho, .int mpc, .int msd, .int mki, .ref mk, .ref ma, .ref mo, .ref mg, .ref mm, .ref mt, .int mdn, .int mun, .ref mn, .int mtk, .ref me, .ref mq, .int msv, .ref mwo, .ref md, .ref mf, .ref mr]))]) [0] hP hD hS hA rfl (by decide) (fun hPc hDc => va_runV (As := [.int a_36, .int p2, .int 1]) (rest := [.int p1, .ref mx]) ⟨hx, hb, hml, hown, hts⟩ (c_X11_alongE l D cI cZ cB H.size mx ms mk ma mo mg mm mt mn me mq mwo md mf mr ml mw mgl mhd mre mag mkt mho mpc msd mki mdn mun mtk msv a_36 p2 1 hml_ hmw (by omega) (by decide)) (cwV 3 hts gX11_isTaken_X11_along rfl rfl rfl (by decide +kernel) ⟨Nat.le_of_ble_eq_true rfl, Nat.le_of_ble_eq_true rfl⟩) (kt_preV hN hK hPc hDc 0 (ci := 11) (q := (RX11, TX11, 29)) rfl rfl) rfl rfl hl.1 rfl (lv_room (Nat.le_of_ble_eq_true rfl)) dX11_isTaken_39 ⟨Nat.le_of_ble_eq_true rfl, Nat.le_of_ble_eq_true rfl⟩) (fun r_39 _ H locs hw_39 hP hS => ?_)
        rw [ea_36, kt_c1] at hw_39
        have hal := kt_al_r (a := p2.toInt) (n := 1) hmw hml_ (show 0 ≤ (fa p1.toNatClampNeg).toInt ∧ (fa p1.toNatClampNeg).toInt < ml.toInt * mw.toInt by omega) (by omega)
        rw [← hw_39] at hal
        refine kt_pi (wc := [(mx, .inr (11, [.int ml, .int mw, .ref ms, .int mgl, .int mhd, .int mre, .int mag, .int mkt, .int mho, .int mpc, .int msd, .int mki, .ref mk, .ref ma, .ref mo, .ref mg, .ref mm, .ref mt, .int mdn, .int mun, .ref mn, .int mtk, .ref me, .ref mq, .int msv, .ref mwo, .ref md, .ref mf, .ref mr])), (mo, .inl (cI, 81, .inl fo)), (mg, .inl (cI, 81, .inl fr)), (mk, .inl (cI, 40, .inl fk))]) [0, 2, 3, 4] hP hD hS hA rfl (by decide) (fun hPc hDc => va_runV (As := [.int p1, .int r_39]) (rest := []) ⟨hx, hb, hml, hown, hts⟩ (c_X11_isFoeE l D cI cZ cB H.size mx ms mk ma mo mg mm mt mn me mq mwo md mf mr ml mw mgl mhd mre mag mkt mho mpc msd mki mdn mun mtk msv P_ fo fr fk p1 r_39 (by first | assumption | omega | rfl | decide) (by first | assumption | omega | rfl | decide) (by first | assumption | omega | rfl | decide) (by first | assumption | omega | rfl | decide)) (cwV 2 hts gX11_isTaken_X11_isFoe rfl rfl rfl (by decide +kernel) ⟨Nat.le_of_ble_eq_true rfl, Nat.le_of_ble_eq_true rfl⟩) (kt_preV hN hK hPc hDc 0 (ci := 11) (q := (RX11, TX11, 29)) rfl rfl) rfl rfl hl.1 rfl (lv_room (Nat.le_of_ble_eq_true rfl)) dX11_isTaken_42 ⟨Nat.le_of_ble_eq_true rfl, Nat.le_of_ble_eq_true rfl⟩) (fun r_42 _ H locs hw_42 hP hS => ?_)
        rw [hw_39] at hw_42
        exact kt_rz () hx hb hr hlk hS dX11_isTaken_45 hP hD (by show kt_B r_42 (kt_tkn fo fr fk mkt mhd mw.toInt ml.toInt p1.toNatClampNeg (fa p1.toNatClampNeg).toInt p2.toInt); first
            | exact hw_42.iff ⟨fun h => Or.inl ⟨hnc, h⟩, fun h => h.elim (fun h1 => h1.2) (fun h2 => absurd h2.1 hnc)⟩
            | exact hcz.iff ⟨fun h => Or.inr ⟨hcp, fun b hb => h b (by omega)⟩, fun h b hb => h.elim (fun h1 => absurd hcp h1.1) (fun h2 => h2.2 b (by omega))⟩) (by exact hw_42.z)
