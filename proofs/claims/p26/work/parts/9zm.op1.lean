/-! ===== the calls dress, contain, window, ask, text: both sides ===== -/
theorem nI_0' : nI 0 = 0 := rfl