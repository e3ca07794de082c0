theorem iw_X11_worth_X11 : ∀ w ∈ wsX110, w ∈ wsX11_worth := fun _ h => kt_wp_X11_worth__X110 h
theorem iw_X11_deep_X11 : ∀ w ∈ wsX110, w ∈ wsX11_deep := fun _ h => kt_wp_X11_deep__X110 h
theorem iw_X11_count_X11 : ∀ w ∈ wsX110, w ∈ wsX11_count := fun _ h => kt_wp_X11_count__X110 h
theorem iw_X11_most_X11 : ∀ w ∈ wsX110, w ∈ wsX11_most := fun _ h => kt_wp_X11_most__X110 h
theorem iw_X11_stand_X11 : ∀ w ∈ wsX110, w ∈ wsX11_stand := fun _ h => kt_wp_X11_stand__X110 h
theorem iw_X11_best_X11 : ∀ w ∈ wsX110, w ∈ wsX11_best := fun _ h => kt_wp_X11_best__X110 h