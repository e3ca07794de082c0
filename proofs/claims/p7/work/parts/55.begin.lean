theorem kt_sK {s v : Int32} (h : (v = 1 ∧ (s = 2 ∨ s = 7)) ∨ (v = 0 ∧ ¬ (s = 2 ∨ s = 7))) : v = if kt_iK s = true then 1 else 0 := by
  unfold kt_iK
  refine kt_dt ?_
  have e : kt_kd s = 2 ↔ (s = 2 ∨ s = 7) := by
    unfold kt_kd
    by_cases h7 : s = 7
    · rw [if_pos h7]; exact ⟨fun _ => Or.inr h7, fun _ => rfl⟩
    · rw [if_neg h7]
      split
      · exact ⟨fun h => Or.inl h, fun h => h.elim id (fun h => absurd h h7)⟩
      · rename_i hn
        refine ⟨fun h => absurd h (by decide), fun h => h.elim (fun h => ?_) (fun h => absurd h h7)⟩
        exact absurd (by rw [h]; decide) hn
  rw [e]; exact h
theorem kt_sR {s v : Int32} (h : (v = 1 ∧ (s = 3 ∨ s = 4)) ∨ (v = 0 ∧ ¬ (s = 3 ∨ s = 4))) : v = if kt_iR s = true then 1 else 0 := by
  unfold kt_iR
  refine kt_dt ?_
  have e : (kt_kd s = 3 ∨ kt_kd s = 4) ↔ (s = 3 ∨ s = 4) := by
    unfold kt_kd
    by_cases h7 : s = 7
    · rw [if_pos h7, h7]; decide
    · rw [if_neg h7]
      split
      · exact Iff.rfl
      · rename_i hn
        refine ⟨fun h => h.elim (fun h => absurd h (by decide)) (fun h => absurd h (by decide)), fun h => absurd ?_ hn⟩
        rcases h with h | h <;> (rw [h]; decide)
  rw [e]; exact h
theorem kt_sT {s v : Int32} (h : (v = 1 ∧ (s = 5 ∨ s = 7)) ∨ (v = 0 ∧ ¬ (s = 5 ∨ s = 7))) : v = if kt_iT s = true then 1 else 0 := by
  unfold kt_iT
  refine kt_dt ?_
  have e : kt_tp s = 1 ↔ (s = 5 ∨ s = 7) := by
    unfold kt_tp
    split
    · rename_i hh; exact ⟨fun _ => hh, fun _ => rfl⟩
    · rename_i hh
      split
      · exact ⟨fun h => absurd h (by decide), fun h => absurd h hh⟩
      · exact ⟨fun h => absurd h (by decide), fun h => absurd h hh⟩
  rw [e]; exact h
theorem kt_sP' {s : Int32} (hs : 0 ≤ s.toInt ∧ s.toInt ≤ 7) : ¬ kt_kd s = 0 ↔ (¬ s = 0 ∧ ¬ s = 5 ∧ ¬ s = 6) := by
  rcases (show s.toInt = 0 ∨ s.toInt = 1 ∨ s.toInt = 2 ∨ s.toInt = 3 ∨ s.toInt = 4 ∨ s.toInt = 5 ∨ s.toInt = 6 ∨ s.toInt = 7 by omega) with h | h | h | h | h | h | h | h
  · rw [show s = 0 from (kt_eq s 0).mpr h]; decide
  · rw [show s = 1 from (kt_eq s 1).mpr h]; decide
  · rw [show s = 2 from (kt_eq s 2).mpr h]; decide
  · rw [show s = 3 from (kt_eq s 3).mpr h]; decide
  · rw [show s = 4 from (kt_eq s 4).mpr h]; decide
  · rw [show s = 5 from (kt_eq s 5).mpr h]; decide
  · rw [show s = 6 from (kt_eq s 6).mpr h]; decide
  · rw [show s = 7 from (kt_eq s 7).mpr h]; decide
theorem kt_sP {s v : Int32} (hs : 0 ≤ s.toInt ∧ s.toInt ≤ 7) (h : (v = 1 ∧ (¬ s = 0 ∧ ¬ s = 5 ∧ ¬ s = 6)) ∨ (v = 0 ∧ ¬ (¬ s = 0 ∧ ¬ s = 5 ∧ ¬ s = 6))) : v = if kt_iP s = true then 1 else 0 := by
  unfold kt_iP
  refine kt_dt ?_
  rw [kt_sP' hs]; exact h
/-- the signs of the board, nothing beyond it -/
def kt_bs (fs : Nat → Int32) (N : Nat) : Nat → Int32 := fun f => if f < N then fs f else 0
theorem kt_bs_ct {P : Int32 → Bool} {fs : Nat → Int32} {N : Nat} (h0 : P 0 = false) : ∀ n, N ≤ n → kt_ct P (kt_bs fs N) n = kt_ct P fs N := by
  have hle : ∀ n, n ≤ N → kt_ct P (kt_bs fs N) n = kt_ct P fs n := fun n hn => kt_ct_cong (fun j hj => by unfold kt_bs; rw [if_pos (by omega)])
  intro n hn
  induction n with
  | zero => exact hle 0 (by omega) |>.trans (by rw [show N = 0 by omega])
  | succ n ih =>
    by_cases e : N ≤ n
    · rw [kt_ct_no (by unfold kt_bs; rw [if_neg (by omega), h0]; decide)]
      exact ih e
    · have : N = n + 1 := by omega
      rw [hle _ (by omega), this]

theorem kt_PI.init {ml mw mpc msd mki mkt mhd : Int32} {fr fk fa fo mv gs : Nat → Int32} {P : Nat} (h1 : (P : Int) = mpc.toInt ∧ P ≤ 40) (h2 : 0 ≤ mki.toInt ∧ mki.toInt < (P : Int)) (h3 : 0 ≤ msd.toInt ∧ msd.toInt ≤ 1) (hf : kt_r fa P (-1) (ml.toInt * mw.toInt - 1) ∧ kt_con fo fa P ∧ kt_coc fo fa P) (hrow : kt_row gs 0 P (ml.toInt * mw.toInt)) (hg : ∀ p, p < P → gs p = fa p) : kt_PI ml mw mpc msd mki 0 0 mkt mhd fr fk fa fo mv gs P := by
  have e0 : kt_cut P gs = kt_cut P fa := kt_cut_eq hg
  refine ⟨⟨h1, h2, h3, by decide, by decide⟩, hf, by rw [e0]; exact hf.2.2.inj h1.2, fun n hn => ?_, e0.symm, fun k hk => ?_⟩
  · rw [kt_c0] at hn
    have : n = 0 := by omega
    subst this
    exact ⟨hrow, kt_cut_eq (fun j hj => by rw [Nat.mul_zero, Nat.zero_add])⟩
  · rw [kt_c0] at hk
    omega

theorem iw_X11_begin_X11 : ∀ w ∈ wsX110, w ∈ wsX11_begin := fun _ h => kt_wp_X11_begin__X110 h