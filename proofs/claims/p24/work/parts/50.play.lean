/-! ===== the run of a play: each stand out of the one before it ===== -/
def kt_inj (A : Nat → Int32) (P : Nat) : Prop := ∀ i j f : Nat, i < P → j < P → f < 81 → A i = nI f → A j = nI f → i = j
theorem kt_coc.inj {fo fa : Nat → Int32} {P : Nat} (hP : P ≤ 40) (hc : kt_coc fo fa P) : kt_inj (kt_cut P fa) P := by
  intro i j f hi hj hf h1 h2
  rw [kt_cut_in hi] at h1
  rw [kt_cut_in hj] at h2
  have h3 := hc i hi f hf h1
  have h4 := hc j hj f hf h2
  rw [h3] at h4
  exact kt_nIinj (by omega) (by omega) h4
theorem kt_mk_inj {P : Nat} {w L : Int} {fr fk A : Nat → Int32} {mkt mhd : Int32} {p : Nat} {a n : Int} (hA : kt_inj A P) (hfree : ∀ q, q < P → ¬ A q = nI (kt_al (A p).toInt w L a n).toNat) : kt_inj (kt_mk P w L fr fk mkt mhd A p a n) P := by
  have key : ∀ i f, i < P → f < 81 → kt_mk P w L fr fk mkt mhd A p a n i = nI f → upd A p (nI (kt_al (A p).toInt w L a n).toNat) i = nI f := by
    intro i f hi hf h
    unfold kt_mk at h
    rw [if_pos hi] at h
    split at h
    · exact absurd h.symm (kt_nIm1 (by omega))
    · exact h
  intro i j f hi hj hf h1 h2
  have h3 := key i f hi hf h1
  have h4 := key j f hj hf h2
  by_cases ei : i = p
  · by_cases ej : j = p
    · rw [ei, ej]
    · rw [ei, pk_us] at h3
      rw [pk_un ej] at h4
      exact absurd (h4.trans h3.symm) (hfree j hj)
  · by_cases ej : j = p
    · rw [ej, pk_us] at h4
      rw [pk_un ei] at h3
      exact absurd (h3.trans h4.symm) (hfree i hi)
    · rw [pk_un ei] at h3
      rw [pk_un ej] at h4
      exact hA i j f hi hj hf h3 h4
noncomputable def kt_stepf (P : Nat) (w L : Int) (fr fk : Nat → Int32) (mkt mhd : Int32) (A : Nat → Int32) (m : Int32) : Nat → Int32 := kt_mk P w L fr fk mkt mhd A (m.toInt / 32).toNat (m.toInt / 8 % 4) (m.toInt % 8 + 1)
/-- a move's number that can be made -/
def kt_lgl (P : Nat) (w L : Int) (A : Nat → Int32) (m : Int32) : Prop := (0 ≤ m.toInt ∧ m.toInt / 32 < (P : Int)) ∧ 0 ≤ (A (m.toInt / 32).toNat).toInt ∧ m.toInt % 8 + 1 ≤ kt_rom (A (m.toInt / 32).toNat).toInt w L (m.toInt / 8 % 4) ∧ ∀ q, q < P → ¬ A q = nI (kt_al (A (m.toInt / 32).toNat).toInt w L (m.toInt / 8 % 4) (m.toInt % 8 + 1)).toNat
def kt_S (step : (Nat → Int32) → Int32 → (Nat → Int32)) (A0 : Nat → Int32) (mv : Nat → Int32) : Nat → (Nat → Int32)
  | 0 => A0
  | k + 1 => step (kt_S step A0 mv k) (mv k)
theorem kt_S_cong {step : (Nat → Int32) → Int32 → (Nat → Int32)} {A0 : Nat → Int32} {mv mv' : Nat → Int32} : ∀ {k : Nat}, (∀ j, j < k → mv j = mv' j) → kt_S step A0 mv k = kt_S step A0 mv' k
  | 0, _ => rfl
  | k + 1, h => by
    show step (kt_S step A0 mv k) (mv k) = step (kt_S step A0 mv' k) (mv' k)
    rw [kt_S_cong (fun j hj => h j (by omega)), h k (by omega)]
theorem kt_S_inj {P : Nat} {w L : Int} {fr fk A0 mv : Nat → Int32} {mkt mhd : Int32} {N : Nat} (h0 : kt_inj A0 P) (hl : ∀ k, k < N → kt_lgl P w L (kt_S (kt_stepf P w L fr fk mkt mhd) A0 mv k) (mv k)) : ∀ k, k ≤ N → kt_inj (kt_S (kt_stepf P w L fr fk mkt mhd) A0 mv k) P
  | 0, _ => h0
  | k + 1, h => kt_mk_inj (kt_S_inj h0 hl k (by omega)) (hl k (by omega)).2.2.2
/-- a play of the reference -/
def kt_PI (ml mw mpc msd mki mdn mun mkt mhd : Int32) (fr fk fa fo mv gs : Nat → Int32) (P : Nat) : Prop :=
  (((P : Int) = mpc.toInt ∧ P ≤ 40) ∧ (0 ≤ mki.toInt ∧ mki.toInt < (P : Int)) ∧ (0 ≤ msd.toInt ∧ msd.toInt ≤ 1) ∧ 0 ≤ mdn.toInt ∧ 0 ≤ mun.toInt) ∧ (kt_r fa P (-1) (ml.toInt * mw.toInt - 1) ∧ kt_con fo fa P ∧ kt_coc fo fa P) ∧ kt_inj (kt_cut P gs) P ∧ (∀ n : Nat, (n : Int) ≤ mdn.toInt → kt_row gs n P (ml.toInt * mw.toInt) ∧ kt_cut P (fun j => gs (41 * n + j)) = kt_S (kt_stepf P mw.toInt ml.toInt fr fk mkt mhd) (kt_cut P gs) mv n) ∧ kt_cut P fa = kt_S (kt_stepf P mw.toInt ml.toInt fr fk mkt mhd) (kt_cut P gs) mv mdn.toInt.toNat ∧ ∀ k : Nat, (k : Int) < mdn.toInt + mun.toInt → kt_lgl P mw.toInt ml.toInt (kt_S (kt_stepf P mw.toInt ml.toInt fr fk mkt mhd) (kt_cut P gs) mv k) (mv k)
theorem kt_PI.inj {ml mw mpc msd mki mdn mun mkt mhd : Int32} {fr fk fa fo mv gs : Nat → Int32} {P : Nat} (h : kt_PI ml mw mpc msd mki mdn mun mkt mhd fr fk fa fo mv gs P) {n : Nat} (hn : (n : Int) ≤ mdn.toInt) : kt_inj (fun j => gs (41 * n + j)) P := by
  obtain ⟨⟨-, -, -, -, hu⟩, -, h0, hr, -, hl⟩ := h
  have h1 := kt_S_inj (N := (mdn.toInt + mun.toInt).toNat) h0 (fun k hk => hl k (by omega)) n (by omega)
  rw [← (hr n hn).2] at h1
  intro i j f hi hj hf e1 e2
  exact h1 i j f hi hj hf (by rw [kt_cut_in hi]; exact e1) (by rw [kt_cut_in hj]; exact e2)
/-- the rows up to the latest are all that a play rests on -/
theorem kt_PI.rows {ml mw mpc msd mki mdn mun mkt mhd msd2 : Int32} {fr fk fa fo mv gs fa2 fo2 gs2 : Nat → Int32} {P : Nat} (h : kt_PI ml mw mpc msd mki mdn mun mkt mhd fr fk fa fo mv gs P) (hP : P ≤ 40) (hg : ∀ j : Nat, (j : Int) < 41 * (mdn.toInt + 1) → gs2 j = gs j) (hs : 0 ≤ msd2.toInt ∧ msd2.toInt ≤ 1) (hf : kt_r fa2 P (-1) (ml.toInt * mw.toInt - 1) ∧ kt_con fo2 fa2 P ∧ kt_coc fo2 fa2 P) (hc : kt_cut P fa2 = kt_cut P fa) : kt_PI ml mw mpc msd2 mki mdn mun mkt mhd fr fk fa2 fo2 mv gs2 P := by
  obtain ⟨⟨a1, a2, a3, a4, a5⟩, -, h0, hr, hS, hl⟩ := h
  have e0 : kt_cut P gs2 = kt_cut P gs := kt_cut_eq (fun j hj => hg j (by omega))
  refine ⟨⟨a1, a2, hs, a4, a5⟩, hf, by rw [e0]; exact h0, fun n hn => ?_, by rw [e0, hc]; exact hS, fun k hk => by rw [e0]; exact hl k hk⟩
  obtain ⟨r1, r2⟩ := hr n hn
  refine ⟨⟨fun p hp => by rw [hg _ (by omega)]; exact r1.1 p hp, by rw [hg _ (by omega)]; exact r1.2⟩, ?_⟩
  rw [e0, ← r2]
  exact kt_cut_eq (fun j hj => hg _ (by omega))
/-- one move more (or one made again) -/
theorem kt_PI.step {ml mw mpc msd mki mdn mun mkt mhd msd2 mdn2 mun2 m : Int32} {fr fk fa fo mv gs fa2 fo2 gs2 mv2 : Nat → Int32} {P : Nat} (h : kt_PI ml mw mpc msd mki mdn mun mkt mhd fr fk fa fo mv gs P) (hP : P ≤ 40) (hd : mdn2.toInt = mdn.toInt + 1) (hm2 : mv2 = upd mv mdn.toInt.toNat m) (hlg : kt_lgl P mw.toInt ml.toInt (kt_cut P fa) m) (hst : kt_cut P fa2 = kt_stepf P mw.toInt ml.toInt fr fk mkt mhd (kt_cut P fa) m)
    (hg : ∀ j : Nat, (j : Int) < 41 * (mdn.toInt + 1) → gs2 j = gs j) (hrow : kt_row gs2 (mdn.toInt + 1).toNat P (ml.toInt * mw.toInt)) (hrw : ∀ p, p < P → gs2 (41 * (mdn.toInt + 1).toNat + p) = fa2 p) (hs : 0 ≤ msd2.toInt ∧ msd2.toInt ≤ 1) (hf : kt_r fa2 P (-1) (ml.toInt * mw.toInt - 1) ∧ kt_con fo2 fa2 P ∧ kt_coc fo2 fa2 P)
    (hu : mun2.toInt = 0 ∨ (m = mv mdn.toInt.toNat ∧ mun2.toInt = mun.toInt - 1 ∧ 0 ≤ mun2.toInt)) : kt_PI ml mw mpc msd2 mki mdn2 mun2 mkt mhd fr fk fa2 fo2 mv2 gs2 P := by
  obtain ⟨⟨a1, a2, a3, a4, a5⟩, -, h0, hr, hS, hl⟩ := h
  have e0 : kt_cut P gs2 = kt_cut P gs := kt_cut_eq (fun j hj => hg j (by omega))
  have hmo : ∀ j, j < mdn.toInt.toNat → mv2 j = mv j := fun j hj => by rw [hm2, pk_un (by omega)]
  have hme : mv2 mdn.toInt.toNat = m := by rw [hm2, pk_us]
  have hSo : ∀ k, k ≤ mdn.toInt.toNat → kt_S (kt_stepf P mw.toInt ml.toInt fr fk mkt mhd) (kt_cut P gs) mv2 k = kt_S (kt_stepf P mw.toInt ml.toInt fr fk mkt mhd) (kt_cut P gs) mv k := fun k hk => kt_S_cong (fun j hj => hmo j (by omega))
  have hSn : kt_S (kt_stepf P mw.toInt ml.toInt fr fk mkt mhd) (kt_cut P gs) mv2 (mdn.toInt.toNat + 1) = kt_cut P fa2 := by
    show kt_stepf P mw.toInt ml.toInt fr fk mkt mhd (kt_S (kt_stepf P mw.toInt ml.toInt fr fk mkt mhd) (kt_cut P gs) mv2 mdn.toInt.toNat) (mv2 mdn.toInt.toNat) = _
    rw [hSo _ (Nat.le_refl _), hme, ← hS, hst]
  refine ⟨⟨a1, a2, hs, by omega, by omega⟩, hf, by rw [e0]; exact h0, fun n hn => ?_, ?_, fun k hk => ?_⟩
  · by_cases e : (n : Int) ≤ mdn.toInt
    · obtain ⟨r1, r2⟩ := hr n e
      refine ⟨⟨fun p hp => by rw [hg _ (by omega)]; exact r1.1 p hp, by rw [hg _ (by omega)]; exact r1.2⟩, ?_⟩
      rw [e0, hSo n (by omega), ← r2]
      exact kt_cut_eq (fun j hj => hg _ (by omega))
    · have en : n = (mdn.toInt + 1).toNat := by omega
      have en2 : (mdn.toInt + 1).toNat = mdn.toInt.toNat + 1 := by omega
      refine ⟨by rw [en]; exact hrow, ?_⟩
      rw [e0, en, en2, hSn, ← en2]
      exact kt_cut_eq (fun j hj => hrw j hj)
  · rw [e0, show mdn2.toInt.toNat = mdn.toInt.toNat + 1 by omega, hSn]
  · rw [e0]
    by_cases e : (k : Int) < mdn.toInt
    · rw [hSo k (by omega), hmo k (by omega)]
      exact hl k (by omega)
    · by_cases e2 : (k : Int) = mdn.toInt
      · have ek : k = mdn.toInt.toNat := by omega
        rw [ek, hSo _ (Nat.le_refl _), hme, ← hS]
        exact hlg
      · rcases hu with hu | ⟨hu1, hu2, hu3⟩
        · omega
        · have hmv : mv2 = mv := by
            rw [hm2, hu1]
            funext j
            by_cases ej : j = mdn.toInt.toNat
            · rw [ej, pk_us]
            · rw [pk_un ej]
          rw [hmv]
          exact hl k (by omega)
/-- a move taken back -/
theorem kt_PI.back {ml mw mpc msd mki mdn mun mkt mhd msd2 mdn2 mun2 : Int32} {fr fk fa fo mv gs fa2 fo2 : Nat → Int32} {P : Nat} (h : kt_PI ml mw mpc msd mki mdn mun mkt mhd fr fk fa fo mv gs P) (hd : mdn2.toInt = mdn.toInt - 1) (hd0 : 0 ≤ mdn2.toInt) (hu : mun2.toInt = mun.toInt + 1) (hs : 0 ≤ msd2.toInt ∧ msd2.toInt ≤ 1) (hf : kt_r fa2 P (-1) (ml.toInt * mw.toInt - 1) ∧ kt_con fo2 fa2 P ∧ kt_coc fo2 fa2 P) (hrw : ∀ p, p < P → fa2 p = gs (41 * mdn2.toInt.toNat + p)) : kt_PI ml mw mpc msd2 mki mdn2 mun2 mkt mhd fr fk fa2 fo2 mv gs P := by
  obtain ⟨⟨a1, a2, a3, a4, a5⟩, -, h0, hr, hS, hl⟩ := h
  refine ⟨⟨a1, a2, hs, hd0, by omega⟩, hf, h0, fun n hn => hr n (by omega), ?_, fun k hk => hl k (by omega)⟩
  rw [← (hr mdn2.toInt.toNat (by omega)).2]
  exact kt_cut_eq (fun j hj => hrw j hj)
