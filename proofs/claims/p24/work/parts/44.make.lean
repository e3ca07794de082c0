theorem kt_nIinj {a b : Nat} (ha : a < 1000000000) (hb : b < 1000000000) (h : nI a = nI b) : a = b := (nI_eq (by omega) (by omega)).mp h
theorem kt_nIm1 {a : Nat} (ha : a < 1000000000) : ¬ nI a = -1 := by
  rw [kt_eq, kt_nI ha, kt_cm1]; omega
/-- a piece goes from a to t -/
theorem kt_con.move {fo fa : Nat → Int32} {P p a t : Nat} (hc : kt_con fo fa P) (hp : p < P) (ha : fa p = nI a) (h81 : a < 81) : kt_con (upd (upd fo a (-1)) t (nI p)) (upd fa p (nI t)) P := by
  intro f hf hne
  by_cases e : f = t
  · subst e
    exact ⟨p, hp, pk_us, pk_us⟩
  · rw [pk_un e] at hne
    by_cases e2 : f = a
    · subst e2; exact absurd pk_us hne
    · rw [pk_un e2] at hne
      obtain ⟨q, hq, h1, h2⟩ := hc f hf hne
      have hqp : q ≠ p := fun e3 => by
        rw [e3, ha] at h2
        exact e2 (kt_nIinj (by omega) (by omega) h2).symm
      exact ⟨q, hq, by rw [pk_un e, pk_un e2]; exact h1, by rw [pk_un hqp]; exact h2⟩
/-- a piece is taken off its field a -/
theorem kt_con.drop {fo fa : Nat → Int32} {P k a : Nat} {x : Int32} (hc : kt_con fo fa P) (ha : fa k = nI a) (h81 : a < 81) : kt_con (upd fo a (-1)) (upd fa k x) P := by
  intro f hf hne
  by_cases e2 : f = a
  · subst e2; exact absurd pk_us hne
  · rw [pk_un e2] at hne
    obtain ⟨q, hq, h1, h2⟩ := hc f hf hne
    have hqp : q ≠ k := fun e3 => by
      rw [e3, ha] at h2
      exact e2 (kt_nIinj (by omega) (by omega) h2).symm
    exact ⟨q, hq, by rw [pk_un e2]; exact h1, by rw [pk_un hqp]; exact h2⟩
/-- who stands on a field is a piece, and is there -/
theorem kt_con.at {fo fa : Nat → Int32} {P f : Nat} {x : Int32} (hc : kt_con fo fa P) (hP : P ≤ 40) (hf : f < 81) (hx : x = fo f) (hne : ¬ x = -1) : (0 ≤ x.toInt ∧ x.toInt < (P : Int)) ∧ (fa x.toNatClampNeg).toInt = (f : Int) := by
  obtain ⟨q, hq, h1, h2⟩ := hc f hf (by rw [← hx]; exact hne)
  have e : x = nI q := hx.trans h1
  have e2 := kt_nI (n := q) (by omega)
  rw [e, e2]
  refine ⟨by omega, ?_⟩
  rw [nI_clamp (by omega), h2, kt_nI (by omega)]

theorem iw_X11_make_X11 : ∀ w ∈ wsX110, w ∈ wsX11_make := fun _ h => kt_wp_X11_make__X110 h