theorem iw_X11_tried_X11 : ∀ w ∈ wsX110, w ∈ wsX11_tried := fun _ h => kt_wp_X11_tried__X110 h
theorem iw_X11_leads_X11 : ∀ w ∈ wsX110, w ∈ wsX11_leads := fun _ h => kt_wp_X11_leads__X110 h