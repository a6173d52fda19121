theorem fwX1 : ∀ w ∈ u_ws RX1 TX1 2, w ∈ WW := by decide +kernel
theorem fwX7 : ∀ w ∈ u_ws RX7 TX7 2, w ∈ WW := by decide +kernel
