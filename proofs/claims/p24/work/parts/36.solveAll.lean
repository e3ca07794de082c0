theorem iw_X7_solveAll_X7 : ∀ w ∈ wsX70, w ∈ wsX7_solveAll := fun _ h => kt_wp_X7_solveAll__X70 h
theorem iw_X7_solveAll_X6 : ∀ w ∈ wsX60, w ∈ wsX7_solveAll := fun _ h => kt_wp_X7_solveAll__X60 h
theorem iw_X7_solveAll_X0 : ∀ w ∈ wsX00, w ∈ wsX7_solveAll := fun _ h => kt_wp_X7_solveAll__X00 h