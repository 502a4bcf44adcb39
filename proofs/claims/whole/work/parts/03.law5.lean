theorem sy_e164_20 : sy_c164_20.all (sy_okE cL_law) = true := by decide +kernel
theorem sy_e164_21 : sy_c164_21.all (sy_okE cL_law) = true := by decide +kernel
theorem sy_e164_22 : sy_c164_22.all (sy_okE cL_law) = true := by decide +kernel
