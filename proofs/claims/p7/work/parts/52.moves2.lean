theorem iw_X11_go_X11 : ∀ w ∈ wsX110, w ∈ wsX11_go := by decide +kernel
theorem iw_X11_back_X11 : ∀ w ∈ wsX110, w ∈ wsX11_back := by decide +kernel
theorem iw_X11_again_X11 : ∀ w ∈ wsX110, w ∈ wsX11_again := by decide +kernel