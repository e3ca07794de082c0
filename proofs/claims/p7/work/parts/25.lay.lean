theorem iw_X0_lay_X0 : ∀ w ∈ wsX00, w ∈ wsX0_lay := by decide +kernel
theorem iw_X0_lay_X9 : ∀ w ∈ wsX90, w ∈ wsX0_lay := by decide +kernel