theorem iw_X11_about_X11 : ∀ w ∈ wsX110, w ∈ wsX11_about := fun _ h => kt_wp_X11_about__X110 h
theorem iw_X11_piece_X11 : ∀ w ∈ wsX110, w ∈ wsX11_piece := fun _ h => kt_wp_X11_piece__X110 h
theorem iw_X11_on_X11 : ∀ w ∈ wsX110, w ∈ wsX11_on := fun _ h => kt_wp_X11_on__X110 h
theorem iw_X11_field_X11 : ∀ w ∈ wsX110, w ∈ wsX11_field := fun _ h => kt_wp_X11_field__X110 h
theorem iw_X11_took_X11 : ∀ w ∈ wsX110, w ∈ wsX11_took := fun _ h => kt_wp_X11_took__X110 h