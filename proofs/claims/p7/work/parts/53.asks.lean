theorem iw_X11_about_X11 : ∀ w ∈ wsX110, w ∈ wsX11_about := by decide +kernel
theorem iw_X11_piece_X11 : ∀ w ∈ wsX110, w ∈ wsX11_piece := by decide +kernel
theorem iw_X11_on_X11 : ∀ w ∈ wsX110, w ∈ wsX11_on := by decide +kernel
theorem iw_X11_field_X11 : ∀ w ∈ wsX110, w ∈ wsX11_field := by decide +kernel
theorem iw_X11_took_X11 : ∀ w ∈ wsX110, w ∈ wsX11_took := by decide +kernel