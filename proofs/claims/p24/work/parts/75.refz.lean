/-! ===== a play of the reference, exactly ===== -/
/-- how the play is at its k-th stand -/
def kt_hk (P : Nat) (w L : Int) (fr fk : Nat → Int32) (re : Int) (lg lc : Int32) (kg : Nat) (A0 mv : Nat → Int32) (mkt mhd : Int32) (s0 : Int) (k : Nat) (h : Int) : Prop := kt_hows P w L fr fk re lg kg (kt_S (kt_stepf P w L fr fk mkt mhd) A0 mv k) (kt_sdk s0 k) (lc = 0 ∧ ∃ i : Nat, i < k ∧ kt_S (kt_stepf P w L fr fk mkt mhd) A0 mv i = kt_S (kt_stepf P w L fr fk mkt mhd) A0 mv k ∧ kt_sdk s0 i = kt_sdk s0 k) h
theorem kt_hk_cong {P : Nat} {w L : Int} {fr fk : Nat → Int32} {re : Int} {lg lc : Int32} {kg : Nat} {A0 A0' mv mv' : Nat → Int32} {mkt mhd : Int32} {s0 : Int} {k : Nat} {h : Int} (hS : ∀ i, i ≤ k → kt_S (kt_stepf P w L fr fk mkt mhd) A0 mv i = kt_S (kt_stepf P w L fr fk mkt mhd) A0' mv' i) (a : kt_hk P w L fr fk re lg lc kg A0 mv mkt mhd s0 k h) : kt_hk P w L fr fk re lg lc kg A0' mv' mkt mhd s0 k h := by
  unfold kt_hk at a ⊢
  rw [hS k (Nat.le_refl k)] at a
  refine kt_HW.eq' a ?_
  constructor
  · intro ⟨h1, i, h2, h3, h4⟩
    exact ⟨h1, i, h2, by rw [← hS i (by omega)]; exact h3, h4⟩
  · intro ⟨h1, i, h2, h3, h4⟩
    exact ⟨h1, i, h2, by rw [hS i (by omega)]; exact h3, h4⟩
theorem kt_alike_iff {P N : Nat} {g : Nat → Int32} {S : Nat → Nat → Int32} {s0 : Int} (hP : P ≤ 40) (hrow : ∀ n, n ≤ N → kt_cut P (fun j => g (41 * n + j)) = S n) (hs : ∀ n, n ≤ N → (g (41 * n + 40)).toInt = kt_sdk s0 n ∧ ∀ p, P ≤ p → p < 40 → g (41 * n + p) = -1) {i n : Nat} (hi : i ≤ N) (hn : n ≤ N) : (∀ j, j < 41 → g (41 * i + j) = g (41 * n + j)) ↔ (S i = S n ∧ kt_sdk s0 i = kt_sdk s0 n) := by
  constructor
  · intro h
    refine ⟨?_, ?_⟩
    · rw [← hrow i hi, ← hrow n hn]
      exact kt_cut_eq (fun j hj => h j (by omega))
    · rw [← (hs i hi).1, ← (hs n hn).1, h 40 (by omega)]
  · intro ⟨h1, h2⟩ j hj
    by_cases e : j < P
    · have h3 := congrFun h1 j
      rw [← hrow i hi, ← hrow n hn, kt_cut_in e, kt_cut_in e] at h3
      exact h3
    · by_cases e2 : j < 40
      · rw [(hs i hi).2 j (by omega) e2, (hs n hn).2 j (by omega) e2]
      · have e3 : j = 40 := by omega
        rw [e3]
        exact (kt_eq _ _).mpr (by rw [(hs i hi).1, (hs n hn).1, h2])
/-- what a play of the reference is beside kt_PI -/
def kt_PD (ml mw msd mki mdn mun mkt mhd mho mtk mgl mre mag : Int32) (fr fk mv gs ft : Nat → Int32) (P : Nat) : Prop :=
  (∀ n : Nat, (n : Int) ≤ mdn.toInt → (gs (41 * n + 40)).toInt = kt_sdk (gs 40).toInt n ∧ ∀ p, P ≤ p → p < 40 → gs (41 * n + p) = -1) ∧ (msd.toInt = kt_sdk (gs 40).toInt mdn.toInt.toNat ∧ 0 ≤ (gs 40).toInt ∧ (gs 40).toInt ≤ 1) ∧ (∀ q, q < P → (fk q = 2 ↔ mki = nI q)) ∧ kt_hk P mw.toInt ml.toInt fr fk mre.toInt mgl mag mki.toInt.toNat (kt_cut P gs) mv mkt mhd (gs 40).toInt mdn.toInt.toNat mho.toInt ∧ (∀ k : Nat, (k : Int) < mdn.toInt + mun.toInt → kt_hk P mw.toInt ml.toInt fr fk mre.toInt mgl mag mki.toInt.toNat (kt_cut P gs) mv mkt mhd (gs 40).toInt k 1 ∧ kt_side (fk ((mv k).toInt / 32).toNat) = kt_sdk (gs 40).toInt k) ∧ (mdn.toInt = 0 → mtk = -1) ∧ (0 < mdn.toInt → mtk = nI (kt_tn (kt_S (kt_stepf P mw.toInt ml.toInt fr fk mkt mhd) (kt_cut P gs) mv (mdn.toInt.toNat - 1)) (kt_S (kt_stepf P mw.toInt ml.toInt fr fk mkt mhd) (kt_cut P gs) mv mdn.toInt.toNat) P) ∧ ∀ p, p < P → (¬ ft p = 0 ↔ kt_gone (kt_S (kt_stepf P mw.toInt ml.toInt fr fk mkt mhd) (kt_cut P gs) mv (mdn.toInt.toNat - 1)) (kt_S (kt_stepf P mw.toInt ml.toInt fr fk mkt mhd) (kt_cut P gs) mv mdn.toInt.toNat) p))
/-- where the rows up to the latest stay, the play stays -/
theorem kt_PD.rows {ml mw msd msd2 mki mdn mun mkt mhd mho mtk mtk2 mgl mre mag : Int32} {fr fk mv gs gs2 ft ft2 : Nat → Int32} {P : Nat} (h : kt_PD ml mw msd mki mdn mun mkt mhd mho mtk mgl mre mag fr fk mv gs ft P) (hP : P ≤ 40) (hd : 0 ≤ mdn.toInt) (hg : ∀ j : Nat, (j : Int) < 41 * (mdn.toInt + 1) → gs2 j = gs j) (hrow : ∀ n : Nat, (n : Int) ≤ mdn.toInt → kt_cut P (fun j => gs (41 * n + j)) = kt_S (kt_stepf P mw.toInt ml.toInt fr fk mkt mhd) (kt_cut P gs) mv n) (hs : msd2 = gs2 (41 * mdn.toInt.toNat + 40)) (h0 : mdn.toInt = 0 → mtk2 = -1) (h1 : 0 < mdn.toInt → mtk2 = nI (kt_ct kt_nz ft2 P))
    (h2 : ∀ p, p < P → (¬ ft2 p = 0 ↔ 0 < mdn.toInt ∧ (¬ gs2 (41 * (mdn.toInt.toNat - 1) + p) = -1 ∧ gs2 (41 * mdn.toInt.toNat + p) = -1))) : kt_PD ml mw msd2 mki mdn mun mkt mhd mho mtk2 mgl mre mag fr fk mv gs2 ft2 P := by
  obtain ⟨a1, a2, a3, a4, a5, a6, a7⟩ := h
  have e0 : kt_cut P gs2 = kt_cut P gs := kt_cut_eq (fun j hj => hg j (by omega))
  have e40 : gs2 40 = gs 40 := hg 40 (by omega)
  have hfl : 0 < mdn.toInt → ∀ p, p < P → (¬ ft2 p = 0 ↔ kt_gone (kt_S (kt_stepf P mw.toInt ml.toInt fr fk mkt mhd) (kt_cut P gs) mv (mdn.toInt.toNat - 1)) (kt_S (kt_stepf P mw.toInt ml.toInt fr fk mkt mhd) (kt_cut P gs) mv mdn.toInt.toNat) p) := by
    intro hpos p hp
    rw [h2 p hp, ← hrow (mdn.toInt.toNat - 1) (by omega), ← hrow mdn.toInt.toNat (by omega)]
    unfold kt_gone
    rw [kt_cut_in hp, kt_cut_in hp, hg (41 * (mdn.toInt.toNat - 1) + p) (by omega), hg (41 * mdn.toInt.toNat + p) (by omega)]
    exact ⟨fun h => h.2, fun h => ⟨hpos, h⟩⟩
  refine ⟨fun n hn => ?_, ?_, a3, by rw [e0, e40]; exact a4, fun k hk => by rw [e0, e40]; exact a5 k hk, h0, fun hpos => ?_⟩
  · rw [hg _ (by omega), e40]
    exact ⟨(a1 n hn).1, fun p hp hp2 => by rw [hg _ (by omega)]; exact (a1 n hn).2 p hp hp2⟩
  · rw [e40, hs, hg _ (by omega)]
    exact ⟨(a1 mdn.toInt.toNat (by omega)).1, a2.2⟩
  · rw [e0]
    exact ⟨by rw [h1 hpos, kt_tn_ct (hfl hpos)], hfl hpos⟩
theorem kt_HW.gl {K G G' C B : Prop} {s r : Int} (h : kt_HW K G C B s r) (iG : ¬ K → (G ↔ G')) : kt_HW K G' C B s r := by
  rcases h with a | a | a | a | a
  · exact Or.inl a
  · exact Or.inr (Or.inl ⟨a.1, (iG a.1).mp a.2.1, a.2.2⟩)
  · exact Or.inr (Or.inr (Or.inl ⟨a.1, fun h => a.2.1 ((iG a.1).mpr h), a.2.2⟩))
  · exact Or.inr (Or.inr (Or.inr (Or.inl ⟨a.1, fun h => a.2.1 ((iG a.1).mpr h), a.2.2⟩)))
  · exact Or.inr (Or.inr (Or.inr (Or.inr ⟨a.1, fun h => a.2.1 ((iG a.1).mpr h), a.2.2⟩)))
/-- a play that goes on: the king is there, and on no goal -/
theorem kt_HW.on {K G C B : Prop} {s : Int} (h : kt_HW K G C B s 1) (hs : 0 ≤ s ∧ s ≤ 1) : ¬ K ∧ ¬ G ∧ C ∧ ¬ B := by
  rcases h with a | a | a | a | a
  · have := a.2; omega
  · have := a.2.2; omega
  · have := a.2.2.2; omega
  · have := a.2.2.2.2; omega
  · exact ⟨a.1, a.2.1, a.2.2.1, a.2.2.2.1⟩
theorem kt_sdk_r {s0 : Int} (h : 0 ≤ s0 ∧ s0 ≤ 1) (k : Nat) : 0 ≤ kt_sdk s0 k ∧ kt_sdk s0 k ≤ 1 := by
  unfold kt_sdk
  split <;> omega
theorem kt_PD.step {ml mw mpc msd mki mdn mun mkt mhd mho mtk mgl mre mag msd2 mdn2 mun2 mho2 mtk2 m : Int32} {fr fk fa fo mv gs ft fa2 fo2 gs2 mv2 ft2 : Nat → Int32} {P : Nat} (h : kt_PI ml mw mpc msd mki mdn mun mkt mhd fr fk fa fo mv gs P) (hd : kt_PD ml mw msd mki mdn mun mkt mhd mho mtk mgl mre mag fr fk mv gs ft P) (hw : 2 ≤ mw.toInt ∧ mw.toInt ≤ 9) (hL : 2 ≤ ml.toInt ∧ ml.toInt ≤ 9) (h1 : mho.toInt = 1) (hdd : mdn2.toInt = mdn.toInt + 1) (hm2 : mv2 = upd mv mdn.toInt.toNat m) (hlg : kt_lgl P mw.toInt ml.toInt (kt_cut P fa) m) (hsm : kt_side (fk (m.toInt / 32).toNat) = msd.toInt) (hst : kt_cut P fa2 = kt_stepf P mw.toInt ml.toInt fr fk mkt mhd (kt_cut P fa) m)
    (hg : ∀ j : Nat, (j : Int) < 41 * (mdn.toInt + 1) → gs2 j = gs j) (hge : ∀ p, p < P → gs2 (41 * (mdn.toInt + 1).toNat + p) = fa2 p) (hfc : kt_r fa2 P (-1) (ml.toInt * mw.toInt - 1) ∧ kt_con fo2 fa2 P ∧ kt_coc fo2 fa2 P) (hs2 : msd2.toInt = 1 - msd.toInt) (h40 : gs2 (41 * (mdn.toInt + 1).toNat + 40) = msd2) (hout : ∀ p, P ≤ p → p < 40 → gs2 (41 * (mdn.toInt + 1).toNat + p) = -1) (hfl : ∀ j, j < P → (¬ ft2 j = 0 ↔ kt_gone (kt_cut P fa) (kt_cut P fa2) j)) (hmt : mtk2 = nI (kt_ct kt_nz ft2 P))
    (hhw : kt_HW (fa2 mki.toNatClampNeg = -1) (msd.toInt = 0 ∧ kt_goR mgl mw.toInt ml.toInt (fr (fa2 mki.toNatClampNeg).toNatClampNeg) (fa2 mki.toNatClampNeg).toInt) (kt_can P fo2 fr fk fa2 mre.toInt mw.toInt ml.toInt msd2.toInt) (mag = 0 ∧ ∃ i : Nat, i < (mdn.toInt + 1).toNat ∧ ∀ j : Nat, j < 41 → gs2 (41 * i + j) = gs2 (41 * (mdn.toInt + 1).toNat + j)) msd2.toInt mho2.toInt)
    (hu : mun2.toInt = 0 ∨ (m = mv mdn.toInt.toNat ∧ mun2.toInt = mun.toInt - 1 ∧ 0 ≤ mun2.toInt)) : kt_PD ml mw msd2 mki mdn2 mun2 mkt mhd mho2 mtk2 mgl mre mag fr fk mv2 gs2 ft2 P := by
  obtain ⟨⟨⟨b1, b1'⟩, b2, b3, b4, b5⟩, ⟨c1, c2, c3⟩, c4, c5, c6, c7⟩ := h
  obtain ⟨a1, a2, a3, a4, a5, a6, a7⟩ := hd
  have hP : P ≤ 40 := b1'
  have e0 : kt_cut P gs2 = kt_cut P gs := kt_cut_eq (fun j hj => hg j (by omega))
  have e40 : gs2 40 = gs 40 := hg 40 (by omega)
  have ed : (mdn.toInt + 1).toNat = mdn.toInt.toNat + 1 := by omega
  have ed2 : mdn2.toInt.toNat = mdn.toInt.toNat + 1 := by omega
  rw [ed] at hge h40 hout hhw
  have hSu := kt_S_upd (P := P) (w := mw.toInt) (L := ml.toInt) (fr := fr) (fk := fk) (A0 := kt_cut P gs) (mv := mv) (lt := mkt) (lh := mhd) (m := m) (d := mdn.toInt.toNat)
  rw [← hm2, ← c6, ← hst] at hSu
  obtain ⟨hSo, hSn⟩ := hSu
  have hrow2 : ∀ n, n ≤ mdn.toInt.toNat + 1 → kt_cut P (fun j => gs2 (41 * n + j)) = kt_S (kt_stepf P mw.toInt ml.toInt fr fk mkt mhd) (kt_cut P gs) mv2 n := by
    intro n hn
    by_cases e : n = mdn.toInt.toNat + 1
    · rw [e, hSn]
      exact kt_cut_eq (fun j hj => hge j hj)
    · rw [hSo n (by omega), ← (c5 n (by omega)).2]
      exact kt_cut_eq (fun j hj => hg _ (by omega))
  have hs3 : ∀ n, n ≤ mdn.toInt.toNat + 1 → (gs2 (41 * n + 40)).toInt = kt_sdk (gs 40).toInt n ∧ ∀ p, P ≤ p → p < 40 → gs2 (41 * n + p) = -1 := by
    intro n hn
    by_cases e : n = mdn.toInt.toNat + 1
    · rw [e, h40, hs2, kt_sdk_s, a2.1]
      exact ⟨rfl, hout⟩
    · rw [hg _ (by omega)]
      exact ⟨(a1 n (by omega)).1, fun p hp hp2 => by rw [hg _ (by omega)]; exact (a1 n (by omega)).2 p hp hp2⟩
  have hmsd : 0 ≤ msd.toInt ∧ msd.toInt ≤ 1 := b3
  have hsd2 : msd2.toInt = kt_sdk (gs 40).toInt (mdn.toInt.toNat + 1) := by rw [hs2, kt_sdk_s, a2.1]
  have hkP : mki.toInt.toNat < P := by omega
  have hSr := kt_S_r (N := (mdn.toInt + mun.toInt).toNat) hP hw hL (A0 := kt_cut P gs) (mv := mv) (fr := fr) (fk := fk) (mkt := mkt) (mhd := mhd) (fun q hq => by rw [kt_cut_in hq]; have h9 := (c5 0 (by omega)).1.1 q hq; rw [Nat.mul_zero, Nat.zero_add] at h9; omega) (fun k hk => c7 k (by omega))
  have hhk : kt_hk P mw.toInt ml.toInt fr fk mre.toInt mgl mag mki.toInt.toNat (kt_cut P gs) mv2 mkt mhd (gs 40).toInt (mdn.toInt.toNat + 1) mho2.toInt := by
    have hon := a4
    rw [h1] at hon
    obtain ⟨o1, o2, o3, o4⟩ := kt_HW.on hon (kt_sdk_r a2.2 _)
    have hh := hhw.gl (G' := kt_goR mgl mw.toInt ml.toInt (fr (fa2 mki.toNatClampNeg).toNatClampNeg) (fa2 mki.toNatClampNeg).toInt) (fun hK => by
      by_cases e : msd.toInt = 0
      · exact ⟨fun h => h.2, fun h => ⟨e, h⟩⟩
      · refine ⟨fun h => absurd h.1 e, fun h => ?_⟩
        exfalso
        have hne : mki.toInt.toNat ≠ (m.toInt / 32).toNat := by
          intro e2
          have h5 := (a3 mki.toInt.toNat hkP).mpr (kt_nIof (by omega))
          rw [e2] at h5
          rw [h5] at hsm
          have h6 : kt_side 2 = 0 := by decide
          omega
        have hpP : mki.toInt.toNat < P := hkP
        rw [c6] at hst hlg
        obtain ⟨s1, s2, s3, s4⟩ := kt_stepf_c (fr := fr) (fk := fk) (mkt := mkt) (mhd := mhd) hP hw hL (hSr mdn.toInt.toNat (by omega)) hlg
        rw [← hst] at s3
        have h7 : fa2 mki.toInt.toNat = kt_S (kt_stepf P mw.toInt ml.toInt fr fk mkt mhd) (kt_cut P gs) mv mdn.toInt.toNat mki.toInt.toNat := by
          rcases s3 _ hkP hne with h8 | h8
          · rw [kt_cut_in hkP] at h8; exact h8
          · rw [kt_cut_in hkP] at h8; exact absurd h8 hK
        have h9 : kt_goR mgl mw.toInt ml.toInt (fr (fa2 mki.toInt.toNat).toInt.toNat) (fa2 mki.toInt.toNat).toInt := h
        rw [h7] at h9
        exact o2 h9)
    have h5 := kt_hows.of (T := kt_S (kt_stepf P mw.toInt ml.toInt fr fk mkt mhd) (kt_cut P gs) mv2 (mdn.toInt.toNat + 1)) (fh := fo2) (B' := mag = 0 ∧ ∃ i : Nat, i < mdn.toInt.toNat + 1 ∧ kt_S (kt_stepf P mw.toInt ml.toInt fr fk mkt mhd) (kt_cut P gs) mv2 i = kt_S (kt_stepf P mw.toInt ml.toInt fr fk mkt mhd) (kt_cut P gs) mv2 (mdn.toInt.toNat + 1) ∧ kt_sdk (gs 40).toInt i = kt_sdk (gs 40).toInt (mdn.toInt.toNat + 1)) (kg := mki.toInt.toNat) hw hL hP hfc.1 hfc.2.1 hfc.2.2 (fun q hq => by rw [hSn, kt_cut_in hq]) hkP (by
      constructor
      · intro ⟨g1, i, g2, g3⟩
        exact ⟨g1, i, g2, (kt_alike_iff hP hrow2 hs3 (by omega) (Nat.le_refl _)).mp g3⟩
      · intro ⟨g1, i, g2, g3⟩
        exact ⟨g1, i, g2, (kt_alike_iff hP hrow2 hs3 (by omega) (Nat.le_refl _)).mpr g3⟩) hh
    rw [hsd2] at h5
    exact h5
  refine ⟨fun n hn => ?_, ?_, a3, ?_, fun k hk => ?_, fun h9 => by omega, fun _ => ?_⟩
  · rw [e40]; exact hs3 n (by omega)
  · rw [e40, ed2]; exact ⟨hsd2, a2.2⟩
  · rw [e0, e40, ed2]; exact hhk
  · rw [e0, e40]
    by_cases e : k < mdn.toInt.toNat
    · obtain ⟨x1, x2⟩ := a5 k (by omega)
      exact ⟨kt_hk_cong (fun i hi => (hSo i (by omega)).symm) x1, by rw [hm2, pk_un (by omega)]; exact x2⟩
    · by_cases e2 : k = mdn.toInt.toNat
      · rw [e2]
        have x1 := a4
        rw [h1] at x1
        exact ⟨kt_hk_cong (fun i hi => (hSo i (by omega)).symm) x1, by rw [hm2, pk_us, hsm, a2.1]⟩
      · rcases hu with hu | ⟨hu1, hu2, hu3⟩
        · omega
        · have hmv : mv2 = mv := by rw [hm2, hu1]; exact kt_upd_same mv _
          rw [hmv]
          exact a5 k (by omega)
  · rw [e0, ed2, Nat.add_sub_cancel, hSn, hSo _ (Nat.le_refl _), ← c6]
    exact ⟨by rw [hmt, kt_tn_ct hfl], hfl⟩
/-- a move taken back -/
theorem kt_PD.back {ml mw mpc msd mki mdn mun mkt mhd mho mtk mgl mre mag msd2 mdn2 mun2 mtk2 : Int32} {fr fk fa fo mv gs ft ft2 : Nat → Int32} {P : Nat} (h : kt_PI ml mw mpc msd mki mdn mun mkt mhd fr fk fa fo mv gs P) (hd : kt_PD ml mw msd mki mdn mun mkt mhd mho mtk mgl mre mag fr fk mv gs ft P) (hdd : mdn2.toInt = mdn.toInt - 1) (hd0 : 0 ≤ mdn2.toInt) (hu : mun2.toInt = mun.toInt + 1) (hs : msd2 = gs (41 * mdn2.toInt.toNat + 40)) (h0 : mdn2.toInt = 0 → mtk2 = -1) (h1 : 0 < mdn2.toInt → mtk2 = nI (kt_ct kt_nz ft2 P))
    (h2 : ∀ p, p < P → (¬ ft2 p = 0 ↔ 0 < mdn2.toInt ∧ (¬ gs (41 * (mdn2.toInt.toNat - 1) + p) = -1 ∧ gs (41 * mdn2.toInt.toNat + p) = -1))) {mho2 : Int32} (hh : mho2.toInt = 1) : kt_PD ml mw msd2 mki mdn2 mun2 mkt mhd mho2 mtk2 mgl mre mag fr fk mv gs ft2 P := by
  obtain ⟨⟨⟨b1, b1'⟩, b2, b3, b4, b5⟩, ⟨c1, c2, c3⟩, c4, c5, c6, c7⟩ := h
  obtain ⟨a1, a2, a3, a4, a5, a6, a7⟩ := hd
  have hP : P ≤ 40 := b1'
  have hfl : 0 < mdn2.toInt → ∀ p, p < P → (¬ ft2 p = 0 ↔ kt_gone (kt_S (kt_stepf P mw.toInt ml.toInt fr fk mkt mhd) (kt_cut P gs) mv (mdn2.toInt.toNat - 1)) (kt_S (kt_stepf P mw.toInt ml.toInt fr fk mkt mhd) (kt_cut P gs) mv mdn2.toInt.toNat) p) := by
    intro hpos p hp
    rw [h2 p hp, ← (c5 (mdn2.toInt.toNat - 1) (by omega)).2, ← (c5 mdn2.toInt.toNat (by omega)).2]
    unfold kt_gone
    rw [kt_cut_in hp, kt_cut_in hp]
    exact ⟨fun h => h.2, fun h => ⟨hpos, h⟩⟩
  refine ⟨fun n hn => a1 n (by omega), ⟨by rw [hs]; exact (a1 mdn2.toInt.toNat (by omega)).1, a2.2⟩, a3, by rw [hh]; exact (a5 mdn2.toInt.toNat (by omega)).1, fun k hk => a5 k (by omega), h0, fun hpos => ⟨by rw [h1 hpos, kt_tn_ct (hfl hpos)], hfl hpos⟩⟩
theorem kt_pth_r (fo fr : Nat → Int32) (kp : Int32) (x w L a : Int) : ∀ n, kt_pth fo fr kp x w L a n = 0 ∨ kt_pth fo fr kp x w L a n = 8 ∨ kt_pth fo fr kp x w L a n = 9
  | 0 => Or.inl rfl
  | n + 1 => by
    have ih := kt_pth_r fo fr kp x w L a n
    unfold kt_pth
    split
    · split
      · split
        · exact Or.inl rfl
        · exact Or.inr (Or.inr rfl)
      · exact Or.inr (Or.inl rfl)
    · exact ih
theorem kt_bar_r (fo fr : Nat → Int32) (kp : Int32) (re x w L a n : Int) : 0 ≤ kt_bar fo fr kp re x w L a n ∧ kt_bar fo fr kp re x w L a n ≤ 9 := by
  have h := kt_pth_r fo fr kp x w L a n.toNat
  unfold kt_bar
  split
  · split
    · omega
    · omega
  · omega
theorem kt_bar_free {fo fr : Nat → Int32} {kp : Int32} {re x w L a n : Int} (h : kt_bar fo fr kp re x w L a n = 0) (hn : 1 ≤ n) : n ≤ kt_rom x w L a ∧ fo (kt_al x w L a n).toNat = -1 := by
  obtain ⟨h1, h2, h3⟩ := kt_bar_0.mp h
  refine ⟨h1, ?_⟩
  obtain ⟨k, hk⟩ : ∃ k : Nat, n.toNat = k + 1 := ⟨n.toNat - 1, by omega⟩
  rw [hk] at h3
  have h4 : kt_pth fo fr kp x w L a k = 0 := by
    by_cases e : kt_pth fo fr kp x w L a k = 0
    · exact e
    · rw [← kt_pth_m e (m := k + 1) (by omega)]; exact h3
  have h5 := (kt_pth_s h4).1
  rw [show (k : Int) + 1 = n by omega] at h5
  by_cases e : fo (kt_al x w L a n).toNat = -1
  · exact e
  · have h6 := h5 e
    rw [h3] at h6
    exact absurd h6 (by decide)
