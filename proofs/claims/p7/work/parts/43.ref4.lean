theorem kt_con.add {h g : Nat → Int32} {k F : Nat} (hc : kt_con h g k) (hF : F < 81) : kt_con (upd h F (nI k)) (upd g k (nI F)) (k + 1) := by
  intro f hf hne
  by_cases e : f = F
  · subst e
    exact ⟨k, by omega, pk_us, pk_us⟩
  · rw [pk_un e] at hne
    obtain ⟨q, hq, h1, h2⟩ := hc f hf hne
    exact ⟨q, by omega, by rw [pk_un e]; exact h1, by rw [pk_un (by omega)]; exact h2⟩
theorem kt_con.skip {h g : Nat → Int32} {k : Nat} {x : Int32} (hc : kt_con h g k) : kt_con h (upd g k x) (k + 1) := by
  intro f hf hne
  obtain ⟨q, hq, h1, h2⟩ := hc f hf hne
  exact ⟨q, by omega, h1, by rw [pk_un (by omega)]; exact h2⟩
theorem kt_con.none {h g : Nat → Int32} (hh : ∀ j, j < 81 → h j = -1) : kt_con h g 0 := fun f hf hne => absurd (hh f hf) hne
theorem kt_snoc {g : Nat → Int32} {k : Nat} {lo hi : Int} {x : Int32} (h : kt_r g k lo hi) (h1 : lo ≤ x.toInt) (h2 : x.toInt ≤ hi) : kt_r (upd g k x) (k + 1) lo hi := by
  intro j hj
  by_cases e : j = k
  · rw [e, pk_us]; exact ⟨h1, h2⟩
  · rw [pk_un e]; exact h j (by omega)
theorem kt_nil {g : Nat → Int32} {lo hi : Int} : kt_r g 0 lo hi := fun j h => absurd h (Nat.not_lt_zero j)

theorem iw_X11_read_X11 : ∀ w ∈ wsX110, w ∈ wsX11_read := fun _ h => kt_wp_X11_read__X110 h