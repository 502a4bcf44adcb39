theorem sy_e164_12 : sy_c164_12.all (sy_okE cL_law) = true := by decide +kernel
theorem sy_e164_13 : sy_c164_13.all (sy_okE cL_law) = true := by decide +kernel
theorem sy_e164_14 : sy_c164_14.all (sy_okE cL_law) = true := by decide +kernel
theorem sy_e164_15 : sy_c164_15.all (sy_okE cL_law) = true := by decide +kernel
