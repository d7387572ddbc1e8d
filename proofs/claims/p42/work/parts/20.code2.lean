theorem chkD_ok : chkD = true := by decide +kernel
