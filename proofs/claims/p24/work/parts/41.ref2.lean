theorem iw_X11_bar_X11 : ∀ w ∈ wsX110, w ∈ wsX11_bar := fun _ h => kt_wp_X11_bar__X110 h
theorem iw_X11_movesOf_X11 : ∀ w ∈ wsX110, w ∈ wsX11_movesOf := fun _ h => kt_wp_X11_movesOf__X110 h
theorem iw_X11_canGo_X11 : ∀ w ∈ wsX110, w ∈ wsX11_canGo := fun _ h => kt_wp_X11_canGo__X110 h
theorem iw_X11_isFoe_X11 : ∀ w ∈ wsX110, w ∈ wsX11_isFoe := fun _ h => kt_wp_X11_isFoe__X110 h
theorem iw_X11_isTaken_X11 : ∀ w ∈ wsX110, w ∈ wsX11_isTaken := fun _ h => kt_wp_X11_isTaken__X110 h