def kt_is3 (x : Int32) : Bool := decide (x = 3)
theorem kt_ct_upd {P : Int32 → Bool} {f : Nat → Int32} {i : Nat} {x : Int32} : ∀ {n : Nat}, i < n → P (f i) = true → ¬ P x = true → kt_ct P (upd f i x) n + 1 = kt_ct P f n
  | 0, h, _, _ => absurd h (Nat.not_lt_zero i)
  | n + 1, h, h1, h2 => by
    show kt_ct P (upd f i x) n + (if P (upd f i x n) = true then 1 else 0) + 1 = kt_ct P f n + (if P (f n) = true then 1 else 0)
    by_cases e : i = n
    · subst e
      rw [pk_us, if_neg h2, if_pos h1, kt_ct_cong (P := P) (Q := P) (f := upd f i x) (g := f) (fun j hj => by rw [pk_un (by omega)])]
    · have h3 := kt_ct_upd (n := n) (by omega) h1 h2
      rw [pk_un (Ne.symm e)]
      omega
theorem iw_X11_solve_X11 : ∀ w ∈ wsX110, w ∈ wsX11_solve := fun _ h => kt_wp_X11_solve__X110 h