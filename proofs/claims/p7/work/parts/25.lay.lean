theorem iw_X0_lay_X0 : ∀ w ∈ wsX00, w ∈ wsX0_lay := fun _ h => kt_wp_X0_lay__X00 h
theorem iw_X0_lay_X9 : ∀ w ∈ wsX90, w ∈ wsX0_lay := fun _ h => kt_wp_X0_lay__X90 h