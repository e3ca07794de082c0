theorem iw_X11_go_X11 : ∀ w ∈ wsX110, w ∈ wsX11_go := fun _ h => kt_wp_X11_go__X110 h
theorem iw_X11_back_X11 : ∀ w ∈ wsX110, w ∈ wsX11_back := fun _ h => kt_wp_X11_back__X110 h
theorem iw_X11_again_X11 : ∀ w ∈ wsX110, w ∈ wsX11_again := fun _ h => kt_wp_X11_again__X110 h